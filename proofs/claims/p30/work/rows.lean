section
-- ===== PART A: goes FIRST, ahead of the names: the tables' words, and 'selects' of the private methods out of them =====
/-- a private method of a class that the tables say can be made, by its rows of tables_1 -/
def lw_okq (q : MethodName × Nat) : Prop := (q.1.cls ≠ "java/lang/invoke/MethodHandle" ∧ q.1.cls ≠ "java/lang/invoke/VarHandle") ∧ Cond.instantiable q.1.cls q.2 ∈ tables_1 ∧ Cond.privateMethod q.1 ∈ tables_1 ∧ Cond.instanceMethod q.1 ∈ tables_1
theorem lw_p0 : lw_okq (⟨"Stuntledger", "requirePerson", "(I)V"⟩, 15) := ⟨⟨by decide +kernel, by decide +kernel⟩, List.mem_of_getElem? (i := 14) (by decide +kernel), List.mem_of_getElem? (i := 189) (by decide +kernel), List.mem_of_getElem? (i := 190) (by decide +kernel)⟩
theorem lw_p1 : lw_okq (⟨"java/lang/Throwable", "fillInStackTrace", "(I)Ljava/lang/Throwable;"⟩, 6) := ⟨⟨by decide +kernel, by decide +kernel⟩, List.mem_of_getElem? (i := 231) (by decide +kernel), List.mem_of_getElem? (i := 229) (by decide +kernel), List.mem_of_getElem? (i := 230) (by decide +kernel)⟩
theorem lw_p2 : lw_okq (⟨"Stuntledger", "armedSet", "()I"⟩, 15) := ⟨⟨by decide +kernel, by decide +kernel⟩, List.mem_of_getElem? (i := 14) (by decide +kernel), List.mem_of_getElem? (i := 288) (by decide +kernel), List.mem_of_getElem? (i := 289) (by decide +kernel)⟩
theorem lw_p3 : lw_okq (⟨"Stuntledger", "standsInRing", "(II)Z"⟩, 15) := ⟨⟨by decide +kernel, by decide +kernel⟩, List.mem_of_getElem? (i := 14) (by decide +kernel), List.mem_of_getElem? (i := 292) (by decide +kernel), List.mem_of_getElem? (i := 293) (by decide +kernel)⟩
theorem lw_p4 : lw_okq (⟨"Stuntledger", "ringOf", "(I)I"⟩, 15) := ⟨⟨by decide +kernel, by decide +kernel⟩, List.mem_of_getElem? (i := 14) (by decide +kernel), List.mem_of_getElem? (i := 302) (by decide +kernel), List.mem_of_getElem? (i := 303) (by decide +kernel)⟩
theorem lw_p5 : lw_okq (⟨"Stuntledger", "energyAt", "(II)I"⟩, 15) := ⟨⟨by decide +kernel, by decide +kernel⟩, List.mem_of_getElem? (i := 14) (by decide +kernel), List.mem_of_getElem? (i := 306) (by decide +kernel), List.mem_of_getElem? (i := 307) (by decide +kernel)⟩
theorem lw_p6 : lw_okq (⟨"Stuntledger", "standDown", "(I)V"⟩, 15) := ⟨⟨by decide +kernel, by decide +kernel⟩, List.mem_of_getElem? (i := 14) (by decide +kernel), List.mem_of_getElem? (i := 310) (by decide +kernel), List.mem_of_getElem? (i := 311) (by decide +kernel)⟩
theorem lw_p7 : lw_okq (⟨"Stuntledger", "addMiss", "(I)V"⟩, 15) := ⟨⟨by decide +kernel, by decide +kernel⟩, List.mem_of_getElem? (i := 14) (by decide +kernel), List.mem_of_getElem? (i := 314) (by decide +kernel), List.mem_of_getElem? (i := 315) (by decide +kernel)⟩
theorem lw_p8 : lw_okq (⟨"Stuntledger", "loseSignatures", "(I)V"⟩, 15) := ⟨⟨by decide +kernel, by decide +kernel⟩, List.mem_of_getElem? (i := 14) (by decide +kernel), List.mem_of_getElem? (i := 318) (by decide +kernel), List.mem_of_getElem? (i := 319) (by decide +kernel)⟩
theorem lw_p9 : lw_okq (⟨"Stuntledger", "requireGag", "(I)V"⟩, 15) := ⟨⟨by decide +kernel, by decide +kernel⟩, List.mem_of_getElem? (i := 14) (by decide +kernel), List.mem_of_getElem? (i := 326) (by decide +kernel), List.mem_of_getElem? (i := 327) (by decide +kernel)⟩
theorem lw_p10 : lw_okq (⟨"Stuntledger", "becomeChanged", "(I)V"⟩, 15) := ⟨⟨by decide +kernel, by decide +kernel⟩, List.mem_of_getElem? (i := 14) (by decide +kernel), List.mem_of_getElem? (i := 337) (by decide +kernel), List.mem_of_getElem? (i := 338) (by decide +kernel)⟩
theorem lw_p11 : lw_okq (⟨"Stuntledger", "whatBars", "(I)I"⟩, 15) := ⟨⟨by decide +kernel, by decide +kernel⟩, List.mem_of_getElem? (i := 14) (by decide +kernel), List.mem_of_getElem? (i := 368) (by decide +kernel), List.mem_of_getElem? (i := 369) (by decide +kernel)⟩
theorem lw_p12 : lw_okq (⟨"Stuntledger", "marginOf", "(I)I"⟩, 15) := ⟨⟨by decide +kernel, by decide +kernel⟩, List.mem_of_getElem? (i := 14) (by decide +kernel), List.mem_of_getElem? (i := 372) (by decide +kernel), List.mem_of_getElem? (i := 373) (by decide +kernel)⟩
theorem lw_p13 : lw_okq (⟨"Stuntledger", "guardOf", "(I)I"⟩, 15) := ⟨⟨by decide +kernel, by decide +kernel⟩, List.mem_of_getElem? (i := 14) (by decide +kernel), List.mem_of_getElem? (i := 376) (by decide +kernel), List.mem_of_getElem? (i := 377) (by decide +kernel)⟩
theorem lw_p14 : lw_okq (⟨"Stuntledger", "guards", "(II)Z"⟩, 15) := ⟨⟨by decide +kernel, by decide +kernel⟩, List.mem_of_getElem? (i := 14) (by decide +kernel), List.mem_of_getElem? (i := 380) (by decide +kernel), List.mem_of_getElem? (i := 381) (by decide +kernel)⟩
theorem lw_p15 : lw_okq (⟨"Stuntledger", "isFit", "(I)Z"⟩, 15) := ⟨⟨by decide +kernel, by decide +kernel⟩, List.mem_of_getElem? (i := 14) (by decide +kernel), List.mem_of_getElem? (i := 384) (by decide +kernel), List.mem_of_getElem? (i := 385) (by decide +kernel)⟩
def lw_privs_1 : List (MethodName × Nat) := [(⟨"Stuntledger", "requirePerson", "(I)V"⟩, 15), (⟨"java/lang/Throwable", "fillInStackTrace", "(I)Ljava/lang/Throwable;"⟩, 6), (⟨"Stuntledger", "armedSet", "()I"⟩, 15), (⟨"Stuntledger", "standsInRing", "(II)Z"⟩, 15), (⟨"Stuntledger", "ringOf", "(I)I"⟩, 15), (⟨"Stuntledger", "energyAt", "(II)I"⟩, 15), (⟨"Stuntledger", "standDown", "(I)V"⟩, 15), (⟨"Stuntledger", "addMiss", "(I)V"⟩, 15), (⟨"Stuntledger", "loseSignatures", "(I)V"⟩, 15), (⟨"Stuntledger", "requireGag", "(I)V"⟩, 15), (⟨"Stuntledger", "becomeChanged", "(I)V"⟩, 15), (⟨"Stuntledger", "whatBars", "(I)I"⟩, 15), (⟨"Stuntledger", "marginOf", "(I)I"⟩, 15), (⟨"Stuntledger", "guardOf", "(I)I"⟩, 15), (⟨"Stuntledger", "guards", "(II)Z"⟩, 15), (⟨"Stuntledger", "isFit", "(I)Z"⟩, 15)]
theorem lw_r1 : ∀ q ∈ lw_privs_1, lw_okq q := List.forall_mem_cons.mpr ⟨lw_p0, List.forall_mem_cons.mpr ⟨lw_p1, List.forall_mem_cons.mpr ⟨lw_p2, List.forall_mem_cons.mpr ⟨lw_p3, List.forall_mem_cons.mpr ⟨lw_p4, List.forall_mem_cons.mpr ⟨lw_p5, List.forall_mem_cons.mpr ⟨lw_p6, List.forall_mem_cons.mpr ⟨lw_p7, List.forall_mem_cons.mpr ⟨lw_p8, List.forall_mem_cons.mpr ⟨lw_p9, List.forall_mem_cons.mpr ⟨lw_p10, List.forall_mem_cons.mpr ⟨lw_p11, List.forall_mem_cons.mpr ⟨lw_p12, List.forall_mem_cons.mpr ⟨lw_p13, List.forall_mem_cons.mpr ⟨lw_p14, List.forall_mem_cons.mpr ⟨lw_p15, fun _ h => absurd h List.not_mem_nil⟩⟩⟩⟩⟩⟩⟩⟩⟩⟩⟩⟩⟩⟩⟩⟩
theorem lw_p16 : lw_okq (⟨"Stuntledger", "performersShare", "(II)I"⟩, 15) := ⟨⟨by decide +kernel, by decide +kernel⟩, List.mem_of_getElem? (i := 14) (by decide +kernel), List.mem_of_getElem? (i := 388) (by decide +kernel), List.mem_of_getElem? (i := 389) (by decide +kernel)⟩
theorem lw_p17 : lw_okq (⟨"Stuntledger", "energyOf", "(I)I"⟩, 15) := ⟨⟨by decide +kernel, by decide +kernel⟩, List.mem_of_getElem? (i := 14) (by decide +kernel), List.mem_of_getElem? (i := 392) (by decide +kernel), List.mem_of_getElem? (i := 393) (by decide +kernel)⟩
theorem lw_p18 : lw_okq (⟨"Stuntledger", "isTooYoung", "(II)Z"⟩, 15) := ⟨⟨by decide +kernel, by decide +kernel⟩, List.mem_of_getElem? (i := 14) (by decide +kernel), List.mem_of_getElem? (i := 396) (by decide +kernel), List.mem_of_getElem? (i := 397) (by decide +kernel)⟩
theorem lw_p19 : lw_okq (⟨"Stuntledger", "windBars", "(I)Z"⟩, 15) := ⟨⟨by decide +kernel, by decide +kernel⟩, List.mem_of_getElem? (i := 14) (by decide +kernel), List.mem_of_getElem? (i := 400) (by decide +kernel), List.mem_of_getElem? (i := 401) (by decide +kernel)⟩
theorem lw_p20 : lw_okq (⟨"Stuntledger", "darkBars", "(I)Z"⟩, 15) := ⟨⟨by decide +kernel, by decide +kernel⟩, List.mem_of_getElem? (i := 14) (by decide +kernel), List.mem_of_getElem? (i := 406) (by decide +kernel), List.mem_of_getElem? (i := 407) (by decide +kernel)⟩
theorem lw_p21 : lw_okq (⟨"Stuntledger", "hasMedicAtHand", "(I)Z"⟩, 15) := ⟨⟨by decide +kernel, by decide +kernel⟩, List.mem_of_getElem? (i := 14) (by decide +kernel), List.mem_of_getElem? (i := 410) (by decide +kernel), List.mem_of_getElem? (i := 411) (by decide +kernel)⟩
theorem lw_p22 : lw_okq (⟨"Stuntledger", "isReadyMedic", "(II)Z"⟩, 15) := ⟨⟨by decide +kernel, by decide +kernel⟩, List.mem_of_getElem? (i := 14) (by decide +kernel), List.mem_of_getElem? (i := 414) (by decide +kernel), List.mem_of_getElem? (i := 415) (by decide +kernel)⟩
theorem lw_p23 : lw_okq (⟨"Stuntledger", "isOccupied", "(I)Z"⟩, 15) := ⟨⟨by decide +kernel, by decide +kernel⟩, List.mem_of_getElem? (i := 14) (by decide +kernel), List.mem_of_getElem? (i := 418) (by decide +kernel), List.mem_of_getElem? (i := 419) (by decide +kernel)⟩
theorem lw_p24 : lw_okq (⟨"Stuntledger", "isNearArmed", "(I)Z"⟩, 15) := ⟨⟨by decide +kernel, by decide +kernel⟩, List.mem_of_getElem? (i := 14) (by decide +kernel), List.mem_of_getElem? (i := 422) (by decide +kernel), List.mem_of_getElem? (i := 423) (by decide +kernel)⟩
theorem lw_p25 : lw_okq (⟨"Stuntledger", "requireArmed", "(I)V"⟩, 15) := ⟨⟨by decide +kernel, by decide +kernel⟩, List.mem_of_getElem? (i := 14) (by decide +kernel), List.mem_of_getElem? (i := 430) (by decide +kernel), List.mem_of_getElem? (i := 431) (by decide +kernel)⟩
theorem lw_p26 : lw_okq (⟨"Stuntledger", "hurt", "(I)V"⟩, 15) := ⟨⟨by decide +kernel, by decide +kernel⟩, List.mem_of_getElem? (i := 14) (by decide +kernel), List.mem_of_getElem? (i := 435) (by decide +kernel), List.mem_of_getElem? (i := 436) (by decide +kernel)⟩
theorem lw_p27 : lw_okq (⟨"Stuntledger", "useKitOf", "(I)V"⟩, 15) := ⟨⟨by decide +kernel, by decide +kernel⟩, List.mem_of_getElem? (i := 14) (by decide +kernel), List.mem_of_getElem? (i := 439) (by decide +kernel), List.mem_of_getElem? (i := 440) (by decide +kernel)⟩
theorem lw_p28 : lw_okq (⟨"Stuntledger", "payFor", "(I)V"⟩, 15) := ⟨⟨by decide +kernel, by decide +kernel⟩, List.mem_of_getElem? (i := 14) (by decide +kernel), List.mem_of_getElem? (i := 443) (by decide +kernel), List.mem_of_getElem? (i := 444) (by decide +kernel)⟩
theorem lw_p29 : lw_okq (⟨"Stuntledger", "standDownOccupied", "()V"⟩, 15) := ⟨⟨by decide +kernel, by decide +kernel⟩, List.mem_of_getElem? (i := 14) (by decide +kernel), List.mem_of_getElem? (i := 454) (by decide +kernel), List.mem_of_getElem? (i := 455) (by decide +kernel)⟩
theorem lw_p30 : lw_okq (⟨"Stuntledger", "passOneDay", "()V"⟩, 15) := ⟨⟨by decide +kernel, by decide +kernel⟩, List.mem_of_getElem? (i := 14) (by decide +kernel), List.mem_of_getElem? (i := 463) (by decide +kernel), List.mem_of_getElem? (i := 464) (by decide +kernel)⟩
theorem lw_p31 : lw_okq (⟨"Stuntledger", "requirePiece", "(I)V"⟩, 15) := ⟨⟨by decide +kernel, by decide +kernel⟩, List.mem_of_getElem? (i := 14) (by decide +kernel), List.mem_of_getElem? (i := 474) (by decide +kernel), List.mem_of_getElem? (i := 475) (by decide +kernel)⟩
def lw_privs_2 : List (MethodName × Nat) := [(⟨"Stuntledger", "performersShare", "(II)I"⟩, 15), (⟨"Stuntledger", "energyOf", "(I)I"⟩, 15), (⟨"Stuntledger", "isTooYoung", "(II)Z"⟩, 15), (⟨"Stuntledger", "windBars", "(I)Z"⟩, 15), (⟨"Stuntledger", "darkBars", "(I)Z"⟩, 15), (⟨"Stuntledger", "hasMedicAtHand", "(I)Z"⟩, 15), (⟨"Stuntledger", "isReadyMedic", "(II)Z"⟩, 15), (⟨"Stuntledger", "isOccupied", "(I)Z"⟩, 15), (⟨"Stuntledger", "isNearArmed", "(I)Z"⟩, 15), (⟨"Stuntledger", "requireArmed", "(I)V"⟩, 15), (⟨"Stuntledger", "hurt", "(I)V"⟩, 15), (⟨"Stuntledger", "useKitOf", "(I)V"⟩, 15), (⟨"Stuntledger", "payFor", "(I)V"⟩, 15), (⟨"Stuntledger", "standDownOccupied", "()V"⟩, 15), (⟨"Stuntledger", "passOneDay", "()V"⟩, 15), (⟨"Stuntledger", "requirePiece", "(I)V"⟩, 15)]
theorem lw_r2 : ∀ q ∈ lw_privs_2, lw_okq q := List.forall_mem_cons.mpr ⟨lw_p16, List.forall_mem_cons.mpr ⟨lw_p17, List.forall_mem_cons.mpr ⟨lw_p18, List.forall_mem_cons.mpr ⟨lw_p19, List.forall_mem_cons.mpr ⟨lw_p20, List.forall_mem_cons.mpr ⟨lw_p21, List.forall_mem_cons.mpr ⟨lw_p22, List.forall_mem_cons.mpr ⟨lw_p23, List.forall_mem_cons.mpr ⟨lw_p24, List.forall_mem_cons.mpr ⟨lw_p25, List.forall_mem_cons.mpr ⟨lw_p26, List.forall_mem_cons.mpr ⟨lw_p27, List.forall_mem_cons.mpr ⟨lw_p28, List.forall_mem_cons.mpr ⟨lw_p29, List.forall_mem_cons.mpr ⟨lw_p30, List.forall_mem_cons.mpr ⟨lw_p31, fun _ h => absurd h List.not_mem_nil⟩⟩⟩⟩⟩⟩⟩⟩⟩⟩⟩⟩⟩⟩⟩⟩
theorem lw_p32 : lw_okq (⟨"Stuntledger", "fitCount", "()I"⟩, 15) := ⟨⟨by decide +kernel, by decide +kernel⟩, List.mem_of_getElem? (i := 14) (by decide +kernel), List.mem_of_getElem? (i := 490) (by decide +kernel), List.mem_of_getElem? (i := 491) (by decide +kernel)⟩
theorem lw_p33 : lw_okq (⟨"Stuntledger", "missesOfAll", "()I"⟩, 15) := ⟨⟨by decide +kernel, by decide +kernel⟩, List.mem_of_getElem? (i := 14) (by decide +kernel), List.mem_of_getElem? (i := 494) (by decide +kernel), List.mem_of_getElem? (i := 495) (by decide +kernel)⟩
theorem lw_p34 : lw_okq (⟨"Stuntledger", "hurtCount", "()I"⟩, 15) := ⟨⟨by decide +kernel, by decide +kernel⟩, List.mem_of_getElem? (i := 14) (by decide +kernel), List.mem_of_getElem? (i := 498) (by decide +kernel), List.mem_of_getElem? (i := 499) (by decide +kernel)⟩
theorem lw_p35 : lw_okq (⟨"Stuntledger", "payOfAll", "()I"⟩, 15) := ⟨⟨by decide +kernel, by decide +kernel⟩, List.mem_of_getElem? (i := 14) (by decide +kernel), List.mem_of_getElem? (i := 502) (by decide +kernel), List.mem_of_getElem? (i := 503) (by decide +kernel)⟩
theorem lw_p36 : lw_okq (⟨"Stuntledger", "marginWithoutEnergy", "(I)I"⟩, 15) := ⟨⟨by decide +kernel, by decide +kernel⟩, List.mem_of_getElem? (i := 14) (by decide +kernel), List.mem_of_getElem? (i := 510) (by decide +kernel), List.mem_of_getElem? (i := 511) (by decide +kernel)⟩
theorem lw_p37 : lw_okq (⟨"Stuntledger", "isClearPlace", "(I)Z"⟩, 15) := ⟨⟨by decide +kernel, by decide +kernel⟩, List.mem_of_getElem? (i := 14) (by decide +kernel), List.mem_of_getElem? (i := 518) (by decide +kernel), List.mem_of_getElem? (i := 519) (by decide +kernel)⟩
theorem lw_p38 : lw_okq (⟨"Stuntledger", "ringsAround", "(I)I"⟩, 15) := ⟨⟨by decide +kernel, by decide +kernel⟩, List.mem_of_getElem? (i := 14) (by decide +kernel), List.mem_of_getElem? (i := 536) (by decide +kernel), List.mem_of_getElem? (i := 537) (by decide +kernel)⟩
theorem lw_p39 : lw_okq (⟨"Stuntledger", "bestFreePiece", "(II)I"⟩, 15) := ⟨⟨by decide +kernel, by decide +kernel⟩, List.mem_of_getElem? (i := 14) (by decide +kernel), List.mem_of_getElem? (i := 551) (by decide +kernel), List.mem_of_getElem? (i := 552) (by decide +kernel)⟩
def lw_privs_3 : List (MethodName × Nat) := [(⟨"Stuntledger", "fitCount", "()I"⟩, 15), (⟨"Stuntledger", "missesOfAll", "()I"⟩, 15), (⟨"Stuntledger", "hurtCount", "()I"⟩, 15), (⟨"Stuntledger", "payOfAll", "()I"⟩, 15), (⟨"Stuntledger", "marginWithoutEnergy", "(I)I"⟩, 15), (⟨"Stuntledger", "isClearPlace", "(I)Z"⟩, 15), (⟨"Stuntledger", "ringsAround", "(I)I"⟩, 15), (⟨"Stuntledger", "bestFreePiece", "(II)I"⟩, 15)]
theorem lw_r3 : ∀ q ∈ lw_privs_3, lw_okq q := List.forall_mem_cons.mpr ⟨lw_p32, List.forall_mem_cons.mpr ⟨lw_p33, List.forall_mem_cons.mpr ⟨lw_p34, List.forall_mem_cons.mpr ⟨lw_p35, List.forall_mem_cons.mpr ⟨lw_p36, List.forall_mem_cons.mpr ⟨lw_p37, List.forall_mem_cons.mpr ⟨lw_p38, List.forall_mem_cons.mpr ⟨lw_p39, fun _ h => absurd h List.not_mem_nil⟩⟩⟩⟩⟩⟩⟩⟩
def lw_privs : List (MethodName × Nat) := lw_privs_1 ++ (lw_privs_2 ++ (lw_privs_3))
def lw_tbl : List Cond := k2_sels lw_privs ++ tables_1
theorem lw_privs_ok : ∀ q ∈ lw_privs, lw_okq q := by
  show ∀ q ∈ lw_privs_1 ++ (lw_privs_2 ++ (lw_privs_3)), lw_okq q
  exact List.forall_mem_append.mpr ⟨lw_r1, List.forall_mem_append.mpr ⟨lw_r2, lw_r3⟩⟩
end
section
def RX0 : String := "Stuntledger$Gag"
def TX0 : u_T := fun k => match k with
  | 0 => ("Stuntledger$Gag", "kind", "I", false)
  | 1 => ("Stuntledger$Gag", "performer", "I", false)
  | 2 => ("Stuntledger$Gag", "place", "I", false)
  | 3 => ("Stuntledger$Gag", "level", "I", false)
  | 4 => ("Stuntledger$Gag", "step", "I", false)
  | 5 => ("Stuntledger$Gag", "signatures", "I", false)
  | 6 => ("Stuntledger$Gag", "noes", "I", false)
  | 7 => ("Stuntledger$Gag", "takenCount", "I", false)
  | _ => ("Stuntledger$Gag", "isArmed", "Z", false)
def tyX0 : Nat → FieldType := fun k => match k with
  | 0 => .int
  | 1 => .int
  | 2 => .int
  | 3 => .int
  | 4 => .int
  | 5 => .int
  | 6 => .int
  | 7 => .int
  | _ => .boolean
abbrev wsX00 : List Cond := u_ws RX0 TX0 9
theorem nmX0 : ∀ a, a < 9 → ∀ b, b < 9 → a ≠ b → (TX0 a).2.1 ≠ (TX0 b).2.1 := by decide +kernel
theorem tyX0_ok : ∀ k, k < 9 → parseFieldDescriptor (TX0 k).2.2.1 = some (tyX0 k) := by decide +kernel
abbrev cX0_init : ByteArray := prog_2_method_1_code
def yX0_init : MethodName := ⟨RX0, "<init>", "()V"⟩
def RX1 : String := "Stuntledger$Person"
def TX1 : u_T := fun k => match k with
  | 0 => ("Stuntledger$Person", "skills", "[I", true)
  | 1 => ("Stuntledger$Person", "isMinor", "Z", false)
  | 2 => ("Stuntledger$Person", "isMedic", "Z", false)
  | 3 => ("Stuntledger$Person", "isHurt", "Z", false)
  | 4 => ("Stuntledger$Person", "hurtDay", "I", false)
  | 5 => ("Stuntledger$Person", "place", "I", false)
  | 6 => ("Stuntledger$Person", "tired", "I", false)
  | 7 => ("Stuntledger$Person", "pay", "I", false)
  | _ => ("Stuntledger$Person", "tookCount", "I", false)
def tyX1 : Nat → FieldType := fun k => match k with
  | 0 => .array .int
  | 1 => .boolean
  | 2 => .boolean
  | 3 => .boolean
  | 4 => .int
  | 5 => .int
  | 6 => .int
  | 7 => .int
  | _ => .int
abbrev wsX10 : List Cond := u_ws RX1 TX1 9
theorem nmX1 : ∀ a, a < 9 → ∀ b, b < 9 → a ≠ b → (TX1 a).2.1 ≠ (TX1 b).2.1 := by decide +kernel
theorem tyX1_ok : ∀ k, k < 9 → parseFieldDescriptor (TX1 k).2.2.1 = some (tyX1 k) := by decide +kernel
abbrev cX1_init : ByteArray := prog_3_method_1_code
def yX1_init : MethodName := ⟨RX1, "<init>", "()V"⟩
def RX2 : String := "Stuntledger$Piece"
def TX2 : u_T := fun k => match k with
  | 0 => ("Stuntledger$Piece", "kind", "I", false)
  | 1 => ("Stuntledger$Piece", "guard", "I", false)
  | 2 => ("Stuntledger$Piece", "uses", "I", false)
  | 3 => ("Stuntledger$Piece", "inspectedDay", "I", false)
  | _ => ("Stuntledger$Piece", "putTo", "I", false)
def tyX2 : Nat → FieldType := fun k => match k with
  | 0 => .int
  | 1 => .int
  | 2 => .int
  | 3 => .int
  | _ => .int
abbrev wsX20 : List Cond := u_ws RX2 TX2 5
theorem nmX2 : ∀ a, a < 5 → ∀ b, b < 5 → a ≠ b → (TX2 a).2.1 ≠ (TX2 b).2.1 := by decide +kernel
theorem tyX2_ok : ∀ k, k < 5 → parseFieldDescriptor (TX2 k).2.2.1 = some (tyX2 k) := by decide +kernel
abbrev cX2_init : ByteArray := prog_4_method_1_code
def yX2_init : MethodName := ⟨RX2, "<init>", "()V"⟩
def RX3 : String := "Stuntledger"
def TX3 : u_T := fun k => match k with
  | 0 => ("Stuntledger", "people", "[LStuntledger$Person;", true)
  | 1 => ("Stuntledger", "pieces", "[LStuntledger$Piece;", true)
  | 2 => ("Stuntledger", "gags", "[LStuntledger$Gag;", true)
  | 3 => ("Stuntledger", "peopleCount", "I", false)
  | 4 => ("Stuntledger", "pieceCount", "I", false)
  | 5 => ("Stuntledger", "gagCount", "I", false)
  | 6 => ("Stuntledger", "care", "[I", true)
  | 7 => ("Stuntledger", "misses", "[I", true)
  | 8 => ("Stuntledger", "day", "I", false)
  | 9 => ("Stuntledger", "wind", "I", false)
  | 10 => ("Stuntledger", "hasLight", "Z", false)
  | 11 => ("Stuntledger", "hurtEver", "I", false)
  | 12 => ("Stuntledger", "takenEver", "I", false)
  | 13 => ("Stuntledger", "downEver", "I", false)
  | _ => ("Stuntledger", "marginsTaken", "J", false)
def tyX3 : Nat → FieldType := fun k => match k with
  | 0 => .array (.object "Stuntledger$Person")
  | 1 => .array (.object "Stuntledger$Piece")
  | 2 => .array (.object "Stuntledger$Gag")
  | 3 => .int
  | 4 => .int
  | 5 => .int
  | 6 => .array .int
  | 7 => .array .int
  | 8 => .int
  | 9 => .int
  | 10 => .boolean
  | 11 => .int
  | 12 => .int
  | 13 => .int
  | _ => .long
abbrev wsX30 : List Cond := u_ws RX3 TX3 15
theorem nmX3 : ∀ a, a < 15 → ∀ b, b < 15 → a ≠ b → (TX3 a).2.1 ≠ (TX3 b).2.1 := by decide +kernel
theorem tyX3_ok : ∀ k, k < 15 → parseFieldDescriptor (TX3 k).2.2.1 = some (tyX3 k) := by decide +kernel
abbrev cX3_init : ByteArray := prog_1_method_1_code
def yX3_init : MethodName := ⟨RX3, "<init>", "()V"⟩
abbrev cX3_person : ByteArray := prog_1_method_2_code
def yX3_person : MethodName := ⟨RX3, "person", "(ZZ)I"⟩
abbrev cX3_skill : ByteArray := prog_1_method_3_code
def yX3_skill : MethodName := ⟨RX3, "skill", "(III)I"⟩
abbrev cX3_walk : ByteArray := prog_1_method_4_code
def yX3_walk : MethodName := ⟨RX3, "walk", "(II)I"⟩
abbrev cX3_kit : ByteArray := prog_1_method_5_code
def yX3_kit : MethodName := ⟨RX3, "kit", "(III)I"⟩
abbrev cX3_inspect : ByteArray := prog_1_method_6_code
def yX3_inspect : MethodName := ⟨RX3, "inspect", "(I)I"⟩
abbrev cX3_put : ByteArray := prog_1_method_7_code
def yX3_put : MethodName := ⟨RX3, "put", "(II)I"⟩
abbrev cX3_gag : ByteArray := prog_1_method_8_code
def yX3_gag : MethodName := ⟨RX3, "gag", "(IIII)I"⟩
abbrev cX3_change : ByteArray := prog_1_method_9_code
def yX3_change : MethodName := ⟨RX3, "change", "(IIII)I"⟩
abbrev cX3_rehearse : ByteArray := prog_1_method_10_code
def yX3_rehearse : MethodName := ⟨RX3, "rehearse", "(I)I"⟩
abbrev cX3_sign : ByteArray := prog_1_method_11_code
def yX3_sign : MethodName := ⟨RX3, "sign", "(II)I"⟩
abbrev cX3_no : ByteArray := prog_1_method_12_code
def yX3_no : MethodName := ⟨RX3, "no", "(IIZ)Z"⟩
abbrev cX3_arm : ByteArray := prog_1_method_13_code
def yX3_arm : MethodName := ⟨RX3, "arm", "(I)I"⟩
abbrev cX3_take : ByteArray := prog_1_method_15_code
def yX3_take : MethodName := ⟨RX3, "take", "(I)I"⟩
abbrev cX3_weather : ByteArray := prog_1_method_16_code
def yX3_weather : MethodName := ⟨RX3, "weather", "(IZ)I"⟩
abbrev cX3_pass : ByteArray := prog_1_method_17_code
def yX3_pass : MethodName := ⟨RX3, "pass", "(I)I"⟩
abbrev cX3_ofPerson : ByteArray := prog_1_method_18_code
def yX3_ofPerson : MethodName := ⟨RX3, "ofPerson", "(II)I"⟩
abbrev cX3_ofKit : ByteArray := prog_1_method_19_code
def yX3_ofKit : MethodName := ⟨RX3, "ofKit", "(II)I"⟩
abbrev cX3_ofGag : ByteArray := prog_1_method_20_code
def yX3_ofGag : MethodName := ⟨RX3, "ofGag", "(II)I"⟩
abbrev cX3_ofKind : ByteArray := prog_1_method_21_code
def yX3_ofKind : MethodName := ⟨RX3, "ofKind", "(IZ)I"⟩
abbrev cX3_many : ByteArray := prog_1_method_22_code
def yX3_many : MethodName := ⟨RX3, "many", "(I)I"⟩
abbrev cX3_mostLevel : ByteArray := prog_1_method_24_code
def yX3_mostLevel : MethodName := ⟨RX3, "mostLevel", "(I)I"⟩
abbrev cX3_bestPerformer : ByteArray := prog_1_method_25_code
def yX3_bestPerformer : MethodName := ⟨RX3, "bestPerformer", "(I)I"⟩
abbrev cX3_needs : ByteArray := prog_1_method_26_code
def yX3_needs : MethodName := ⟨RX3, "needs", "(I)I"⟩
abbrev cX3_safeFrom : ByteArray := prog_1_method_27_code
def yX3_safeFrom : MethodName := ⟨RX3, "safeFrom", "(I)I"⟩
abbrev cX3_digest : ByteArray := prog_1_method_28_code
def yX3_digest : MethodName := ⟨RX3, "digest", "()J"⟩
abbrev cX3_mixed : ByteArray := prog_1_method_29_code
def yX3_mixed : MethodName := ⟨RX3, "mixed", "(JI)J"⟩
abbrev cX3_requirePerson : ByteArray := prog_1_method_30_code
def yX3_requirePerson : MethodName := ⟨RX3, "requirePerson", "(I)V"⟩
abbrev cX3_requirePiece : ByteArray := prog_1_method_31_code
def yX3_requirePiece : MethodName := ⟨RX3, "requirePiece", "(I)V"⟩
abbrev cX3_requireGag : ByteArray := prog_1_method_32_code
def yX3_requireGag : MethodName := ⟨RX3, "requireGag", "(I)V"⟩
abbrev cX3_requireKind : ByteArray := prog_1_method_33_code
def yX3_requireKind : MethodName := ⟨RX3, "requireKind", "(I)V"⟩
abbrev cX3_requireRange : ByteArray := prog_1_method_34_code
def yX3_requireRange : MethodName := ⟨RX3, "requireRange", "(III)V"⟩
abbrev cX3_requireArmed : ByteArray := prog_1_method_35_code
def yX3_requireArmed : MethodName := ⟨RX3, "requireArmed", "(I)V"⟩
abbrev cX3_energyAt : ByteArray := prog_1_method_36_code
def yX3_energyAt : MethodName := ⟨RX3, "energyAt", "(II)I"⟩
abbrev cX3_energyOf : ByteArray := prog_1_method_37_code
def yX3_energyOf : MethodName := ⟨RX3, "energyOf", "(I)I"⟩
abbrev cX3_ringOf : ByteArray := prog_1_method_38_code
def yX3_ringOf : MethodName := ⟨RX3, "ringOf", "(I)I"⟩
abbrev cX3_guardOf : ByteArray := prog_1_method_39_code
def yX3_guardOf : MethodName := ⟨RX3, "guardOf", "(I)I"⟩
abbrev cX3_guards : ByteArray := prog_1_method_40_code
def yX3_guards : MethodName := ⟨RX3, "guards", "(II)Z"⟩
abbrev cX3_isFit : ByteArray := prog_1_method_41_code
def yX3_isFit : MethodName := ⟨RX3, "isFit", "(I)Z"⟩
abbrev cX3_marginOf : ByteArray := prog_1_method_42_code
def yX3_marginOf : MethodName := ⟨RX3, "marginOf", "(I)I"⟩
abbrev cX3_marginWithoutEnergy : ByteArray := prog_1_method_43_code
def yX3_marginWithoutEnergy : MethodName := ⟨RX3, "marginWithoutEnergy", "(I)I"⟩
abbrev cX3_performersShare : ByteArray := prog_1_method_44_code
def yX3_performersShare : MethodName := ⟨RX3, "performersShare", "(II)I"⟩
abbrev cX3_distance : ByteArray := prog_1_method_45_code
def yX3_distance : MethodName := ⟨RX3, "distance", "(II)I"⟩
abbrev cX3_standsInRing : ByteArray := prog_1_method_46_code
def yX3_standsInRing : MethodName := ⟨RX3, "standsInRing", "(II)Z"⟩
abbrev cX3_isOccupied : ByteArray := prog_1_method_47_code
def yX3_isOccupied : MethodName := ⟨RX3, "isOccupied", "(I)Z"⟩
abbrev cX3_ringsAround : ByteArray := prog_1_method_48_code
def yX3_ringsAround : MethodName := ⟨RX3, "ringsAround", "(I)I"⟩
abbrev cX3_isClearPlace : ByteArray := prog_1_method_49_code
def yX3_isClearPlace : MethodName := ⟨RX3, "isClearPlace", "(I)Z"⟩
abbrev cX3_isReadyMedic : ByteArray := prog_1_method_50_code
def yX3_isReadyMedic : MethodName := ⟨RX3, "isReadyMedic", "(II)Z"⟩
abbrev cX3_whatBars : ByteArray := prog_1_method_51_code
def yX3_whatBars : MethodName := ⟨RX3, "whatBars", "(I)I"⟩
abbrev cX3_isTooYoung : ByteArray := prog_1_method_52_code
def yX3_isTooYoung : MethodName := ⟨RX3, "isTooYoung", "(II)Z"⟩
abbrev cX3_windBars : ByteArray := prog_1_method_53_code
def yX3_windBars : MethodName := ⟨RX3, "windBars", "(I)Z"⟩
abbrev cX3_darkBars : ByteArray := prog_1_method_54_code
def yX3_darkBars : MethodName := ⟨RX3, "darkBars", "(I)Z"⟩
abbrev cX3_hasMedicAtHand : ByteArray := prog_1_method_55_code
def yX3_hasMedicAtHand : MethodName := ⟨RX3, "hasMedicAtHand", "(I)Z"⟩
abbrev cX3_isNearArmed : ByteArray := prog_1_method_56_code
def yX3_isNearArmed : MethodName := ⟨RX3, "isNearArmed", "(I)Z"⟩
abbrev cX3_standDown : ByteArray := prog_1_method_57_code
def yX3_standDown : MethodName := ⟨RX3, "standDown", "(I)V"⟩
abbrev cX3_standDownOccupied : ByteArray := prog_1_method_58_code
def yX3_standDownOccupied : MethodName := ⟨RX3, "standDownOccupied", "()V"⟩
abbrev cX3_loseSignatures : ByteArray := prog_1_method_59_code
def yX3_loseSignatures : MethodName := ⟨RX3, "loseSignatures", "(I)V"⟩
abbrev cX3_becomeChanged : ByteArray := prog_1_method_60_code
def yX3_becomeChanged : MethodName := ⟨RX3, "becomeChanged", "(I)V"⟩
abbrev cX3_addMiss : ByteArray := prog_1_method_61_code
def yX3_addMiss : MethodName := ⟨RX3, "addMiss", "(I)V"⟩
abbrev cX3_tire : ByteArray := prog_1_method_62_code
def yX3_tire : MethodName := ⟨RX3, "tire", "(LStuntledger$Person;I)V"⟩
abbrev cX3_hurt : ByteArray := prog_1_method_63_code
def yX3_hurt : MethodName := ⟨RX3, "hurt", "(I)V"⟩
abbrev cX3_useKitOf : ByteArray := prog_1_method_64_code
def yX3_useKitOf : MethodName := ⟨RX3, "useKitOf", "(I)V"⟩
abbrev cX3_payFor : ByteArray := prog_1_method_65_code
def yX3_payFor : MethodName := ⟨RX3, "payFor", "(I)V"⟩
abbrev cX3_passOneDay : ByteArray := prog_1_method_66_code
def yX3_passOneDay : MethodName := ⟨RX3, "passOneDay", "()V"⟩
abbrev cX3_oneIf : ByteArray := prog_1_method_67_code
def yX3_oneIf : MethodName := ⟨RX3, "oneIf", "(Z)I"⟩
abbrev cX3_isInSet : ByteArray := prog_1_method_68_code
def yX3_isInSet : MethodName := ⟨RX3, "isInSet", "(II)Z"⟩
abbrev cX3_armedSet : ByteArray := prog_1_method_69_code
def yX3_armedSet : MethodName := ⟨RX3, "armedSet", "()I"⟩
abbrev cX3_fitCount : ByteArray := prog_1_method_70_code
def yX3_fitCount : MethodName := ⟨RX3, "fitCount", "()I"⟩
abbrev cX3_hurtCount : ByteArray := prog_1_method_71_code
def yX3_hurtCount : MethodName := ⟨RX3, "hurtCount", "()I"⟩
abbrev cX3_payOfAll : ByteArray := prog_1_method_72_code
def yX3_payOfAll : MethodName := ⟨RX3, "payOfAll", "()I"⟩
abbrev cX3_missesOfAll : ByteArray := prog_1_method_73_code
def yX3_missesOfAll : MethodName := ⟨RX3, "missesOfAll", "()I"⟩
abbrev cX3_bestFreePiece : ByteArray := prog_1_method_74_code
def yX3_bestFreePiece : MethodName := ⟨RX3, "bestFreePiece", "(II)I"⟩
def RX4 : String := "StuntledgerModel$Gag"
def TX4 : u_T := fun k => match k with
  | _ => ("", "", "", false)
def tyX4 : Nat → FieldType := fun k => match k with
  | _ => .int
abbrev wsX40 : List Cond := u_ws RX4 TX4 0
theorem nmX4 : ∀ a, a < 0 → ∀ b, b < 0 → a ≠ b → (TX4 a).2.1 ≠ (TX4 b).2.1 := by decide +kernel
theorem tyX4_ok : ∀ k, k < 0 → parseFieldDescriptor (TX4 k).2.2.1 = some (tyX4 k) := by decide +kernel
def RX5 : String := "StuntledgerModel$Person"
def TX5 : u_T := fun k => match k with
  | _ => ("", "", "", false)
def tyX5 : Nat → FieldType := fun k => match k with
  | _ => .int
abbrev wsX50 : List Cond := u_ws RX5 TX5 0
theorem nmX5 : ∀ a, a < 0 → ∀ b, b < 0 → a ≠ b → (TX5 a).2.1 ≠ (TX5 b).2.1 := by decide +kernel
theorem tyX5_ok : ∀ k, k < 0 → parseFieldDescriptor (TX5 k).2.2.1 = some (tyX5 k) := by decide +kernel
def RX6 : String := "StuntledgerModel"
def TX6 : u_T := fun k => match k with
  | _ => ("", "", "", false)
def tyX6 : Nat → FieldType := fun k => match k with
  | _ => .int
abbrev wsX60 : List Cond := u_ws RX6 TX6 0
theorem nmX6 : ∀ a, a < 0 → ∀ b, b < 0 → a ≠ b → (TX6 a).2.1 ≠ (TX6 b).2.1 := by decide +kernel
theorem tyX6_ok : ∀ k, k < 0 → parseFieldDescriptor (TX6 k).2.2.1 = some (tyX6 k) := by decide +kernel
def RJx145de : String := "java/io/Serializable"
def TJx145de : u_T := fun k => match k with
  | _ => ("", "", "", false)
def tyJx145de : Nat → FieldType := fun k => match k with
  | _ => .int
abbrev wsJx145de0 : List Cond := u_ws RJx145de TJx145de 0
theorem nmJx145de : ∀ a, a < 0 → ∀ b, b < 0 → a ≠ b → (TJx145de a).2.1 ≠ (TJx145de b).2.1 := by decide +kernel
theorem tyJx145de_ok : ∀ k, k < 0 → parseFieldDescriptor (TJx145de k).2.2.1 = some (tyJx145de k) := by decide +kernel
def RJ6 : String := "java/lang/Integer"
def TJ6 : u_T := fun k => match k with
  | _ => ("", "", "", false)
def tyJ6 : Nat → FieldType := fun k => match k with
  | _ => .int
abbrev wsJ60 : List Cond := u_ws RJ6 TJ6 0
theorem nmJ6 : ∀ a, a < 0 → ∀ b, b < 0 → a ≠ b → (TJ6 a).2.1 ≠ (TJ6 b).2.1 := by decide +kernel
theorem tyJ6_ok : ∀ k, k < 0 → parseFieldDescriptor (TJ6 k).2.2.1 = some (tyJ6 k) := by decide +kernel
abbrev cJ6_bitCount_0f7a4 : ByteArray := prog_13_method_49_code
def yJ6_bitCount_0f7a4 : MethodName := ⟨RJ6, "bitCount", "(I)I"⟩
def RJ9 : String := "java/lang/Math"
def TJ9 : u_T := fun k => match k with
  | _ => ("", "", "", false)
def tyJ9 : Nat → FieldType := fun k => match k with
  | _ => .int
abbrev wsJ90 : List Cond := u_ws RJ9 TJ9 0
theorem nmJ9 : ∀ a, a < 0 → ∀ b, b < 0 → a ≠ b → (TJ9 a).2.1 ≠ (TJ9 b).2.1 := by decide +kernel
theorem tyJ9_ok : ∀ k, k < 0 → parseFieldDescriptor (TJ9 k).2.2.1 = some (tyJ9 k) := by decide +kernel
abbrev cJ9_abs_0f7a4 : ByteArray := prog_14_method_59_code
def yJ9_abs_0f7a4 : MethodName := ⟨RJ9, "abs", "(I)I"⟩
abbrev cJ9_max_7cf53 : ByteArray := prog_14_method_65_code
def yJ9_max_7cf53 : MethodName := ⟨RJ9, "max", "(II)I"⟩
abbrev cJ9_min_7cf53 : ByteArray := prog_14_method_69_code
def yJ9_min_7cf53 : MethodName := ⟨RJ9, "min", "(II)I"⟩
def RJ0 : String := "java/lang/String"
def TJ0 : u_T := fun k => match k with
  | _ => ("", "", "", false)
def tyJ0 : Nat → FieldType := fun k => match k with
  | _ => .int
abbrev wsJ00 : List Cond := u_ws RJ0 TJ0 0
theorem nmJ0 : ∀ a, a < 0 → ∀ b, b < 0 → a ≠ b → (TJ0 a).2.1 ≠ (TJ0 b).2.1 := by decide +kernel
theorem tyJ0_ok : ∀ k, k < 0 → parseFieldDescriptor (TJ0 k).2.2.1 = some (tyJ0 k) := by decide +kernel
def RL : String := "StuntledgerLaw"
abbrev cL_below : ByteArray := method_2_code
def yL_below : MethodName := ⟨RL, "below", "(II)I"⟩
abbrev cL_cell : ByteArray := method_3_code
def yL_cell : MethodName := ⟨RL, "cell", "([II)I"⟩
abbrev cL_write : ByteArray := method_4_code
def yL_write : MethodName := ⟨RL, "write", "(LStuntledger;[II)V"⟩
abbrev cL_ready : ByteArray := method_5_code
def yL_ready : MethodName := ⟨RL, "ready", "(LStuntledger;I)V"⟩
abbrev cL_law : ByteArray := code
def yL_law : MethodName := ⟨RL, "law", "([I)Z"⟩
abbrev cL_isSound : ByteArray := method_7_code
def yL_isSound : MethodName := ⟨RL, "isSound", "(LStuntledger;)Z"⟩
def wsL_law0_r1 : List Cond := [Cond.classLink RL 20 RX3, Cond.instantiable RX3 15, Cond.initialized RX3, Cond.arrayClass .int, Cond.methodLink RL 58 yX3_init, Cond.instanceMethod yX3_init, Cond.code yX3_init cX3_init 2 none, Cond.methodLink RX3 1 objectInit, Cond.instanceMethod objectInit, Cond.code objectInit ⟨#[0xb1]⟩ 1 none, Cond.classLink RX3 9 RX1, Cond.fieldLink RX3 11 "Stuntledger" "people" "[LStuntledger$Person;", Cond.classLink RX3 15 RX2, Cond.fieldLink RX3 17 "Stuntledger" "pieces" "[LStuntledger$Piece;", Cond.classLink RX3 21 RX0, Cond.fieldLink RX3 23 "Stuntledger" "gags" "[LStuntledger$Gag;", Cond.fieldLink RX3 27 "Stuntledger" "peopleCount" "I", Cond.fieldLink RX3 31 "Stuntledger" "pieceCount" "I", Cond.fieldLink RX3 34 "Stuntledger" "gagCount" "I", Cond.fieldLink RX3 37 "Stuntledger" "care" "[I", Cond.fieldLink RX3 41 "Stuntledger" "misses" "[I", Cond.fieldLink RX3 44 "Stuntledger" "day" "I", Cond.fieldLink RX3 47 "Stuntledger" "wind" "I", Cond.fieldLink RX3 50 "Stuntledger" "hasLight" "Z"]
def wsL_law0_r2 : List Cond := [Cond.fieldLink RX3 54 "Stuntledger" "hurtEver" "I", Cond.fieldLink RX3 57 "Stuntledger" "takenEver" "I", Cond.fieldLink RX3 60 "Stuntledger" "downEver" "I", Cond.fieldLink RX3 63 "Stuntledger" "marginsTaken" "J", Cond.instantiable RX1 9, Cond.initialized RX1, Cond.instantiable RX2 5, Cond.initialized RX2, Cond.instantiable RX0 9, Cond.initialized RX0, Cond.instanceMethod yX1_init, Cond.code yX1_init cX1_init 1 none, Cond.methodLink RX1 3 objectInit, Cond.fieldLink RX1 9 "Stuntledger$Person" "skills" "[I", Cond.fieldLink RX1 15 "Stuntledger$Person" "isMinor" "Z", Cond.fieldLink RX1 19 "Stuntledger$Person" "isMedic" "Z", Cond.fieldLink RX1 22 "Stuntledger$Person" "isHurt" "Z", Cond.fieldLink RX1 25 "Stuntledger$Person" "hurtDay" "I", Cond.fieldLink RX1 29 "Stuntledger$Person" "place" "I", Cond.fieldLink RX1 32 "Stuntledger$Person" "tired" "I", Cond.fieldLink RX1 35 "Stuntledger$Person" "pay" "I", Cond.fieldLink RX1 38 "Stuntledger$Person" "tookCount" "I", Cond.instanceMethod yX2_init, Cond.code yX2_init cX2_init 1 none]
def wsL_law0_r3 : List Cond := [Cond.methodLink RX2 3 objectInit, Cond.fieldLink RX2 9 "Stuntledger$Piece" "kind" "I", Cond.fieldLink RX2 15 "Stuntledger$Piece" "guard" "I", Cond.fieldLink RX2 18 "Stuntledger$Piece" "uses" "I", Cond.fieldLink RX2 21 "Stuntledger$Piece" "inspectedDay" "I", Cond.fieldLink RX2 24 "Stuntledger$Piece" "putTo" "I", Cond.instanceMethod yX0_init, Cond.code yX0_init cX0_init 1 none, Cond.methodLink RX0 1 objectInit, Cond.fieldLink RX0 7 "Stuntledger$Gag" "kind" "I", Cond.fieldLink RX0 13 "Stuntledger$Gag" "performer" "I", Cond.fieldLink RX0 16 "Stuntledger$Gag" "place" "I", Cond.fieldLink RX0 19 "Stuntledger$Gag" "level" "I", Cond.fieldLink RX0 22 "Stuntledger$Gag" "step" "I", Cond.fieldLink RX0 25 "Stuntledger$Gag" "signatures" "I", Cond.fieldLink RX0 28 "Stuntledger$Gag" "noes" "I", Cond.fieldLink RX0 31 "Stuntledger$Gag" "takenCount" "I", Cond.fieldLink RX0 34 "Stuntledger$Gag" "isArmed" "Z", Cond.methodLink RL 59 yL_write, Cond.static yL_write, Cond.initialized RL, Cond.code yL_write cL_write 6 none, Cond.methodLink RL 9 yL_cell, Cond.static yL_cell]
def wsL_law0_r4 : List Cond := [Cond.code yL_cell cL_cell 2 (some .int), Cond.constant RL 8 (790386105), Cond.methodLink RL 15 yL_below, Cond.static yL_below, Cond.code yL_below cL_below 2 (some .int), Cond.constant RL 7 (2147483647), Cond.methodLink RL 19 yX3_person, Cond.instanceMethod yX3_person, Cond.selects RX3 yX3_person yX3_person, Cond.code yX3_person cX3_person 4 (some .int), Cond.classLink RX3 70 "java/lang/IllegalStateException", Cond.initialized "java/lang/IllegalStateException", Cond.fieldLink RX3 77 "Stuntledger$Person" "isMinor" "Z", Cond.fieldLink RX3 80 "Stuntledger$Person" "isMedic" "Z", Cond.methodLink RX3 83 yX3_standDownOccupied, Cond.instanceMethod yX3_standDownOccupied, Cond.selects RX3 yX3_standDownOccupied yX3_standDownOccupied, Cond.code yX3_standDownOccupied cX3_standDownOccupied 2 none, Cond.methodLink RX3 357 yX3_isOccupied, Cond.instanceMethod yX3_isOccupied, Cond.selects RX3 yX3_isOccupied yX3_isOccupied, Cond.code yX3_isOccupied cX3_isOccupied 3 (some .boolean), Cond.methodLink RX3 110 yX3_standsInRing, Cond.instanceMethod yX3_standsInRing]
def wsL_law0_r5 : List Cond := [Cond.selects RX3 yX3_standsInRing yX3_standsInRing, Cond.code yX3_standsInRing cX3_standsInRing 3 (some .boolean), Cond.fieldLink RX3 151 "Stuntledger$Gag" "performer" "I", Cond.fieldLink RX3 104 "Stuntledger$Person" "place" "I", Cond.fieldLink RX3 154 "Stuntledger$Gag" "place" "I", Cond.methodLink RX3 351 yX3_distance, Cond.static yX3_distance, Cond.code yX3_distance cX3_distance 2 (some .int), Cond.methodLink RX3 348 Lib.Math.abs.name, Cond.static Lib.Math.abs.name, Cond.initialized "java/lang/Math", Cond.code Lib.Math.abs.name Lib.Math.abs.code 1 (some .int), Cond.methodLink RX3 261 yX3_ringOf, Cond.instanceMethod yX3_ringOf, Cond.selects RX3 yX3_ringOf yX3_ringOf, Cond.code yX3_ringOf cX3_ringOf 2 (some .int), Cond.fieldLink RX3 117 "Stuntledger$Gag" "kind" "I", Cond.fieldLink RX3 155 "Stuntledger$Gag" "level" "I", Cond.methodLink RX3 279 yX3_energyAt, Cond.instanceMethod yX3_energyAt, Cond.selects RX3 yX3_energyAt yX3_energyAt, Cond.code yX3_energyAt cX3_energyAt 3 (some .int), Cond.methodLink RX3 114 yX3_standDown, Cond.instanceMethod yX3_standDown]
def wsL_law0_r6 : List Cond := [Cond.selects RX3 yX3_standDown yX3_standDown, Cond.code yX3_standDown cX3_standDown 2 none, Cond.fieldLink RX3 107 "Stuntledger$Gag" "isArmed" "Z", Cond.methodLink RL 25 yX3_skill, Cond.instanceMethod yX3_skill, Cond.selects RX3 yX3_skill yX3_skill, Cond.code yX3_skill cX3_skill 5 (some .int), Cond.fieldLink RX3 97 "Stuntledger$Person" "skills" "[I", Cond.methodLink RX3 86 yX3_requirePerson, Cond.instanceMethod yX3_requirePerson, Cond.selects RX3 yX3_requirePerson yX3_requirePerson, Cond.code yX3_requirePerson cX3_requirePerson 2 none, Cond.classLink RX3 194 "java/lang/IndexOutOfBoundsException", Cond.initialized "java/lang/IndexOutOfBoundsException", Cond.methodLink RX3 90 yX3_requireKind, Cond.static yX3_requireKind, Cond.code yX3_requireKind cX3_requireKind 1 none, Cond.methodLink RX3 93 yX3_requireRange, Cond.static yX3_requireRange, Cond.code yX3_requireRange cX3_requireRange 3 none, Cond.classLink RX3 338 "java/lang/IllegalArgumentException", Cond.initialized "java/lang/IllegalArgumentException", Cond.methodLink RL 29 yX3_walk, Cond.instanceMethod yX3_walk]
def wsL_law0_r7 : List Cond := [Cond.selects RX3 yX3_walk yX3_walk, Cond.code yX3_walk cX3_walk 5 (some .int), Cond.methodLink RX3 100 yX3_armedSet, Cond.instanceMethod yX3_armedSet, Cond.selects RX3 yX3_armedSet yX3_armedSet, Cond.code yX3_armedSet cX3_armedSet 3 (some .int), Cond.methodLink RX3 120 yX3_addMiss, Cond.instanceMethod yX3_addMiss, Cond.selects RX3 yX3_addMiss yX3_addMiss, Cond.code yX3_addMiss cX3_addMiss 3 none, Cond.methodLink RX3 187 yX3_loseSignatures, Cond.instanceMethod yX3_loseSignatures, Cond.selects RX3 yX3_loseSignatures yX3_loseSignatures, Cond.code yX3_loseSignatures cX3_loseSignatures 2 none, Cond.fieldLink RX3 158 "Stuntledger$Gag" "signatures" "I", Cond.methodLink RL 32 yX3_gag, Cond.instanceMethod yX3_gag, Cond.selects RX3 yX3_gag yX3_gag, Cond.code yX3_gag cX3_gag 6 (some .int), Cond.methodLink RL 36 yX3_ofGag, Cond.instanceMethod yX3_ofGag, Cond.selects RX3 yX3_ofGag yX3_ofGag, Cond.code yX3_ofGag cX3_ofGag 4 (some .int), Cond.fieldLink RX3 172 "Stuntledger$Gag" "step" "I"]
def wsL_law0_r8 : List Cond := [Cond.fieldLink RX3 204 "Stuntledger$Gag" "noes" "I", Cond.fieldLink RX3 218 "Stuntledger$Gag" "takenCount" "I", Cond.methodLink RX3 138 yX3_requireGag, Cond.instanceMethod yX3_requireGag, Cond.selects RX3 yX3_requireGag yX3_requireGag, Cond.code yX3_requireGag cX3_requireGag 2 none, Cond.methodLink RX3 181 yX3_energyOf, Cond.instanceMethod yX3_energyOf, Cond.selects RX3 yX3_energyOf yX3_energyOf, Cond.code yX3_energyOf cX3_energyOf 2 (some .int), Cond.methodLink RX3 264 yX3_guardOf, Cond.instanceMethod yX3_guardOf, Cond.selects RX3 yX3_guardOf yX3_guardOf, Cond.code yX3_guardOf cX3_guardOf 4 (some .int), Cond.fieldLink RX3 126 "Stuntledger$Piece" "guard" "I", Cond.methodLink RX3 345 yX3_guards, Cond.instanceMethod yX3_guards, Cond.selects RX3 yX3_guards yX3_guards, Cond.code yX3_guards cX3_guards 3 (some .boolean), Cond.fieldLink RX3 141 "Stuntledger$Piece" "putTo" "I", Cond.fieldLink RX3 125 "Stuntledger$Piece" "kind" "I", Cond.methodLink RX3 258 yX3_isFit, Cond.instanceMethod yX3_isFit, Cond.selects RX3 yX3_isFit yX3_isFit]
def wsL_law0_r9 : List Cond := [Cond.code yX3_isFit cX3_isFit 3 (some .boolean), Cond.fieldLink RX3 129 "Stuntledger$Piece" "uses" "I", Cond.fieldLink RX3 135 "Stuntledger$Piece" "inspectedDay" "I", Cond.methodLink RX3 215 yX3_marginOf, Cond.instanceMethod yX3_marginOf, Cond.selects RX3 yX3_marginOf yX3_marginOf, Cond.code yX3_marginOf cX3_marginOf 2 (some .int), Cond.methodLink RX3 285 yX3_performersShare, Cond.instanceMethod yX3_performersShare, Cond.selects RX3 yX3_performersShare yX3_performersShare, Cond.code yX3_performersShare cX3_performersShare 4 (some .int), Cond.fieldLink RX3 246 "Stuntledger$Person" "tired" "I", Cond.methodLink RX3 242 yX3_oneIf, Cond.static yX3_oneIf, Cond.code yX3_oneIf cX3_oneIf 1 (some .int), Cond.methodLink RX3 209 yX3_whatBars, Cond.instanceMethod yX3_whatBars, Cond.selects RX3 yX3_whatBars yX3_whatBars, Cond.code yX3_whatBars cX3_whatBars 2 (some .int), Cond.fieldLink RX3 167 "Stuntledger$Person" "isHurt" "Z", Cond.methodLink RX3 161 yJ6_bitCount_0f7a4, Cond.static yJ6_bitCount_0f7a4, Cond.initialized RJ6, Cond.code yJ6_bitCount_0f7a4 cJ6_bitCount_0f7a4 1 (some .int)]
def wsL_law0_r10 : List Cond := [Cond.constant RJ6 265 (1431655765), Cond.constant RJ6 266 (858993459), Cond.constant RJ6 267 (252645135), Cond.methodLink RX3 282 yX3_isTooYoung, Cond.instanceMethod yX3_isTooYoung, Cond.selects RX3 yX3_isTooYoung yX3_isTooYoung, Cond.code yX3_isTooYoung cX3_isTooYoung 3 (some .boolean), Cond.methodLink RX3 230 yX3_windBars, Cond.instanceMethod yX3_windBars, Cond.selects RX3 yX3_windBars yX3_windBars, Cond.code yX3_windBars cX3_windBars 2 (some .boolean), Cond.fieldLink RX3 363 "Stuntledger" "WIND_LIMITS" "[I", Cond.methodLink RX3 234 yX3_darkBars, Cond.instanceMethod yX3_darkBars, Cond.selects RX3 yX3_darkBars yX3_darkBars, Cond.code yX3_darkBars cX3_darkBars 2 (some .boolean), Cond.methodLink RX3 354 yX3_hasMedicAtHand, Cond.instanceMethod yX3_hasMedicAtHand, Cond.selects RX3 yX3_hasMedicAtHand yX3_hasMedicAtHand, Cond.code yX3_hasMedicAtHand cX3_hasMedicAtHand 4 (some .boolean), Cond.methodLink RX3 366 yX3_isReadyMedic, Cond.instanceMethod yX3_isReadyMedic, Cond.selects RX3 yX3_isReadyMedic yX3_isReadyMedic, Cond.code yX3_isReadyMedic cX3_isReadyMedic 3 (some .boolean)]
def wsL_law0_r11 : List Cond := [Cond.methodLink RX3 360 yX3_isNearArmed, Cond.instanceMethod yX3_isNearArmed, Cond.selects RX3 yX3_isNearArmed yX3_isNearArmed, Cond.code yX3_isNearArmed cX3_isNearArmed 3 (some .boolean), Cond.methodLink RL 39 yX3_kit, Cond.instanceMethod yX3_kit, Cond.selects RX3 yX3_kit yX3_kit, Cond.code yX3_kit cX3_kit 5 (some .int), Cond.methodLink RL 42 yX3_put, Cond.instanceMethod yX3_put, Cond.selects RX3 yX3_put yX3_put, Cond.code yX3_put cX3_put 4 (some .int), Cond.methodLink RX3 132 yX3_requirePiece, Cond.instanceMethod yX3_requirePiece, Cond.selects RX3 yX3_requirePiece yX3_requirePiece, Cond.code yX3_requirePiece cX3_requirePiece 2 none, Cond.methodLink RX3 146 yX3_becomeChanged, Cond.instanceMethod yX3_becomeChanged, Cond.selects RX3 yX3_becomeChanged yX3_becomeChanged, Cond.code yX3_becomeChanged cX3_becomeChanged 2 none, Cond.methodLink RX3 175 Lib.Math.min.name, Cond.static Lib.Math.min.name, Cond.code Lib.Math.min.name Lib.Math.min.code 2 (some .int), Cond.methodLink RL 45 yX3_inspect]
def wsL_law0_r12 : List Cond := [Cond.instanceMethod yX3_inspect, Cond.selects RX3 yX3_inspect yX3_inspect, Cond.code yX3_inspect cX3_inspect 3 (some .int), Cond.methodLink RL 63 yX3_ofKit, Cond.instanceMethod yX3_ofKit, Cond.selects RX3 yX3_ofKit yX3_ofKit, Cond.code yX3_ofKit cX3_ofKit 4 (some .int), Cond.methodLink RL 66 yL_ready, Cond.static yL_ready, Cond.code yL_ready cL_ready 3 none, Cond.methodLink RL 49 yX3_ofPerson, Cond.instanceMethod yX3_ofPerson, Cond.selects RX3 yX3_ofPerson yX3_ofPerson, Cond.code yX3_ofPerson cX3_ofPerson 4 (some .int), Cond.fieldLink RX3 249 "Stuntledger$Person" "pay" "I", Cond.fieldLink RX3 252 "Stuntledger$Person" "tookCount" "I", Cond.methodLink RX3 255 yX3_ringsAround, Cond.instanceMethod yX3_ringsAround, Cond.selects RX3 yX3_ringsAround yX3_ringsAround, Cond.code yX3_ringsAround cX3_ringsAround 4 (some .int), Cond.methodLink RL 52 yX3_rehearse, Cond.instanceMethod yX3_rehearse, Cond.selects RX3 yX3_rehearse yX3_rehearse, Cond.code yX3_rehearse cX3_rehearse 6 (some .int)]
def wsL_law0_r13 : List Cond := [Cond.methodLink RX3 184 yX3_marginWithoutEnergy, Cond.instanceMethod yX3_marginWithoutEnergy, Cond.selects RX3 yX3_marginWithoutEnergy yX3_marginWithoutEnergy, Cond.code yX3_marginWithoutEnergy cX3_marginWithoutEnergy 2 (some .int), Cond.methodLink RX3 190 yX3_tire, Cond.static yX3_tire, Cond.code yX3_tire cX3_tire 2 none, Cond.methodLink RL 55 yX3_sign, Cond.instanceMethod yX3_sign, Cond.selects RX3 yX3_sign yX3_sign, Cond.code yX3_sign cX3_sign 4 (some .int), Cond.methodLink RX3 199 yX3_isInSet, Cond.static yX3_isInSet, Cond.code yX3_isInSet cX3_isInSet 2 (some .boolean), Cond.methodLink RL 70 yX3_arm, Cond.instanceMethod yX3_arm, Cond.selects RX3 yX3_arm yX3_arm, Cond.code yX3_arm cX3_arm 3 (some .int), Cond.methodLink RL 73 yX3_take, Cond.instanceMethod yX3_take, Cond.selects RX3 yX3_take yX3_take, Cond.code yX3_take cX3_take 4 (some .int), Cond.methodLink RX3 212 yX3_requireArmed, Cond.instanceMethod yX3_requireArmed]
def wsL_law0_r14 : List Cond := [Cond.selects RX3 yX3_requireArmed yX3_requireArmed, Cond.code yX3_requireArmed cX3_requireArmed 2 none, Cond.methodLink RX3 221 yX3_hurt, Cond.instanceMethod yX3_hurt, Cond.selects RX3 yX3_hurt yX3_hurt, Cond.code yX3_hurt cX3_hurt 3 none, Cond.fieldLink RX3 369 "Stuntledger$Person" "hurtDay" "I", Cond.methodLink RX3 224 yX3_useKitOf, Cond.instanceMethod yX3_useKitOf, Cond.selects RX3 yX3_useKitOf yX3_useKitOf, Cond.code yX3_useKitOf cX3_useKitOf 3 none, Cond.methodLink RX3 227 yX3_payFor, Cond.instanceMethod yX3_payFor, Cond.selects RX3 yX3_payFor yX3_payFor, Cond.code yX3_payFor cX3_payFor 5 none, Cond.methodLink RL 76 yX3_no, Cond.instanceMethod yX3_no, Cond.selects RX3 yX3_no yX3_no, Cond.code yX3_no cX3_no 5 (some .boolean), Cond.methodLink RL 80 yX3_weather, Cond.instanceMethod yX3_weather, Cond.selects RX3 yX3_weather yX3_weather, Cond.code yX3_weather cX3_weather 5 (some .int), Cond.methodLink RL 84 yX3_many]
def wsL_law0_r15 : List Cond := [Cond.instanceMethod yX3_many, Cond.selects RX3 yX3_many yX3_many, Cond.code yX3_many cX3_many 2 (some .int), Cond.methodLink RX3 267 yX3_fitCount, Cond.instanceMethod yX3_fitCount, Cond.selects RX3 yX3_fitCount yX3_fitCount, Cond.code yX3_fitCount cX3_fitCount 3 (some .int), Cond.methodLink RX3 270 yX3_missesOfAll, Cond.instanceMethod yX3_missesOfAll, Cond.selects RX3 yX3_missesOfAll yX3_missesOfAll, Cond.code yX3_missesOfAll cX3_missesOfAll 3 (some .int), Cond.methodLink RX3 273 yX3_hurtCount, Cond.instanceMethod yX3_hurtCount, Cond.selects RX3 yX3_hurtCount yX3_hurtCount, Cond.code yX3_hurtCount cX3_hurtCount 3 (some .int), Cond.methodLink RX3 276 yX3_payOfAll, Cond.instanceMethod yX3_payOfAll, Cond.selects RX3 yX3_payOfAll yX3_payOfAll, Cond.code yX3_payOfAll cX3_payOfAll 3 (some .int), Cond.methodLink RL 87 yX3_pass, Cond.instanceMethod yX3_pass, Cond.selects RX3 yX3_pass yX3_pass, Cond.code yX3_pass cX3_pass 3 (some .int), Cond.methodLink RX3 239 yX3_passOneDay]
def wsL_law0_r16 : List Cond := [Cond.instanceMethod yX3_passOneDay, Cond.selects RX3 yX3_passOneDay yX3_passOneDay, Cond.code yX3_passOneDay cX3_passOneDay 3 none, Cond.methodLink RX3 372 Lib.Math.max.name, Cond.static Lib.Math.max.name, Cond.code Lib.Math.max.name Lib.Math.max.code 2 (some .int), Cond.methodLink RL 90 yX3_change, Cond.instanceMethod yX3_change, Cond.selects RX3 yX3_change yX3_change, Cond.code yX3_change cX3_change 6 (some .int), Cond.methodLink RL 93 yL_isSound, Cond.static yL_isSound, Cond.code yL_isSound cL_isSound 3 (some .boolean), Cond.methodLink RL 97 yX3_digest, Cond.instanceMethod yX3_digest, Cond.selects RX3 yX3_digest yX3_digest, Cond.code yX3_digest cX3_digest 5 (some .long), Cond.constantLong RX3 294 (58230), Cond.methodLink RX3 296 yX3_many, Cond.methodLink RX3 299 yX3_mixed, Cond.static yX3_mixed, Cond.code yX3_mixed cX3_mixed 3 (some .long), Cond.constantLong RX3 328 (31), Cond.methodLink RX3 303 yX3_ofPerson]
def wsL_law0_r17 : List Cond := [Cond.methodLink RX3 306 yX3_ofKit, Cond.methodLink RX3 309 yX3_ofGag, Cond.methodLink RX3 312 yX3_mostLevel, Cond.instanceMethod yX3_mostLevel, Cond.selects RX3 yX3_mostLevel yX3_mostLevel, Cond.code yX3_mostLevel cX3_mostLevel 4 (some .int), Cond.methodLink RX3 315 yX3_bestPerformer, Cond.instanceMethod yX3_bestPerformer, Cond.selects RX3 yX3_bestPerformer yX3_bestPerformer, Cond.code yX3_bestPerformer cX3_bestPerformer 6 (some .int), Cond.methodLink RX3 318 yX3_needs, Cond.instanceMethod yX3_needs, Cond.selects RX3 yX3_needs yX3_needs, Cond.code yX3_needs cX3_needs 6 (some .int), Cond.methodLink RX3 288 yX3_bestFreePiece, Cond.instanceMethod yX3_bestFreePiece, Cond.selects RX3 yX3_bestFreePiece yX3_bestFreePiece, Cond.code yX3_bestFreePiece cX3_bestFreePiece 6 (some .int), Cond.methodLink RX3 321 yX3_safeFrom, Cond.instanceMethod yX3_safeFrom, Cond.selects RX3 yX3_safeFrom yX3_safeFrom, Cond.code yX3_safeFrom cX3_safeFrom 4 (some .int), Cond.methodLink RX3 291 yX3_isClearPlace, Cond.instanceMethod yX3_isClearPlace]
def wsL_law0_r18 : List Cond := [Cond.selects RX3 yX3_isClearPlace yX3_isClearPlace, Cond.code yX3_isClearPlace cX3_isClearPlace 3 (some .boolean), Cond.methodLink RX3 324 yX3_ofKind, Cond.instanceMethod yX3_ofKind, Cond.selects RX3 yX3_ofKind yX3_ofKind, Cond.code yX3_ofKind cX3_ofKind 3 (some .int), Cond.methodLink RL 101 yX3_mostLevel, Cond.methodLink RL 104 yX3_safeFrom]
def wsL_law0 : List Cond := (wsL_law0_r1 ++ (wsL_law0_r2 ++ (wsL_law0_r3 ++ (wsL_law0_r4 ++ (wsL_law0_r5 ++ (wsL_law0_r6 ++ (wsL_law0_r7 ++ (wsL_law0_r8 ++ (wsL_law0_r9 ++ (wsL_law0_r10 ++ (wsL_law0_r11 ++ (wsL_law0_r12 ++ (wsL_law0_r13 ++ (wsL_law0_r14 ++ (wsL_law0_r15 ++ (wsL_law0_r16 ++ (wsL_law0_r17 ++ wsL_law0_r18))))))))))))))))) ++ wsX30 ++ wsX10 ++ wsX20 ++ wsX00 ++ ([] : List Cond)
theorem tb0 {w : Cond} {i : Nat} (h : (k2_sels lw_privs)[i]? = some w) : w ∈ lw_tbl := List.mem_append_left _ (List.mem_of_getElem? h)
theorem tb1 {w : Cond} {i : Nat} (h : tables_1_1[i]? = some w) : w ∈ lw_tbl := List.mem_append_right _ (List.mem_append_left _ (List.mem_of_getElem? h))
theorem tb2 {w : Cond} {i : Nat} (h : tables_1_2[i]? = some w) : w ∈ lw_tbl := List.mem_append_right _ (List.mem_append_right _ (List.mem_append_left _ (List.mem_of_getElem? h)))
theorem tb3 {w : Cond} {i : Nat} (h : tables_1_3[i]? = some w) : w ∈ lw_tbl := List.mem_append_right _ (List.mem_append_right _ (List.mem_append_right _ (List.mem_of_getElem? h)))
theorem gi_1 : ∀ w ∈ wsL_law0_r1, w ∈ lw_tbl := List.forall_mem_cons.mpr ⟨tb1 (i := 13) rfl, List.forall_mem_cons.mpr ⟨tb1 (i := 14) rfl, List.forall_mem_cons.mpr ⟨tb1 (i := 1) rfl, List.forall_mem_cons.mpr ⟨tb1 (i := 69) rfl, List.forall_mem_cons.mpr ⟨tb1 (i := 15) rfl, List.forall_mem_cons.mpr ⟨tb1 (i := 16) rfl, List.forall_mem_cons.mpr ⟨tb1 (i := 17) rfl, List.forall_mem_cons.mpr ⟨tb1 (i := 18) rfl, List.forall_mem_cons.mpr ⟨tb1 (i := 19) rfl, List.forall_mem_cons.mpr ⟨tb1 (i := 20) rfl, List.forall_mem_cons.mpr ⟨tb1 (i := 21) rfl, List.forall_mem_cons.mpr ⟨tb1 (i := 138) rfl, List.forall_mem_cons.mpr ⟨tb1 (i := 23) rfl, List.forall_mem_cons.mpr ⟨tb1 (i := 139) rfl, List.forall_mem_cons.mpr ⟨tb1 (i := 25) rfl, List.forall_mem_cons.mpr ⟨tb1 (i := 140) rfl, List.forall_mem_cons.mpr ⟨tb1 (i := 141) rfl, List.forall_mem_cons.mpr ⟨tb1 (i := 142) rfl, List.forall_mem_cons.mpr ⟨tb1 (i := 143) rfl, List.forall_mem_cons.mpr ⟨tb1 (i := 144) rfl, List.forall_mem_cons.mpr ⟨tb1 (i := 145) rfl, List.forall_mem_cons.mpr ⟨tb1 (i := 146) rfl, List.forall_mem_cons.mpr ⟨tb1 (i := 147) rfl, List.forall_mem_cons.mpr ⟨tb1 (i := 148) rfl, fun _ h => absurd h List.not_mem_nil⟩⟩⟩⟩⟩⟩⟩⟩⟩⟩⟩⟩⟩⟩⟩⟩⟩⟩⟩⟩⟩⟩⟩⟩
theorem go_1 : wsL_law0_r1.all goodWord = true := by decide +kernel
theorem gi_2 : ∀ w ∈ wsL_law0_r2, w ∈ lw_tbl := List.forall_mem_cons.mpr ⟨tb1 (i := 149) rfl, List.forall_mem_cons.mpr ⟨tb1 (i := 150) rfl, List.forall_mem_cons.mpr ⟨tb1 (i := 151) rfl, List.forall_mem_cons.mpr ⟨tb1 (i := 152) rfl, List.forall_mem_cons.mpr ⟨tb1 (i := 27) rfl, List.forall_mem_cons.mpr ⟨tb1 (i := 2) rfl, List.forall_mem_cons.mpr ⟨tb1 (i := 70) rfl, List.forall_mem_cons.mpr ⟨tb1 (i := 3) rfl, List.forall_mem_cons.mpr ⟨tb1 (i := 96) rfl, List.forall_mem_cons.mpr ⟨tb1 (i := 4) rfl, List.forall_mem_cons.mpr ⟨tb1 (i := 29) rfl, List.forall_mem_cons.mpr ⟨tb1 (i := 30) rfl, List.forall_mem_cons.mpr ⟨tb1 (i := 31) rfl, List.forall_mem_cons.mpr ⟨tb1 (i := 32) rfl, List.forall_mem_cons.mpr ⟨tb1 (i := 34) rfl, List.forall_mem_cons.mpr ⟨tb1 (i := 36) rfl, List.forall_mem_cons.mpr ⟨tb1 (i := 38) rfl, List.forall_mem_cons.mpr ⟨tb1 (i := 40) rfl, List.forall_mem_cons.mpr ⟨tb1 (i := 42) rfl, List.forall_mem_cons.mpr ⟨tb1 (i := 44) rfl, List.forall_mem_cons.mpr ⟨tb1 (i := 46) rfl, List.forall_mem_cons.mpr ⟨tb1 (i := 48) rfl, List.forall_mem_cons.mpr ⟨tb1 (i := 72) rfl, List.forall_mem_cons.mpr ⟨tb1 (i := 73) rfl, fun _ h => absurd h List.not_mem_nil⟩⟩⟩⟩⟩⟩⟩⟩⟩⟩⟩⟩⟩⟩⟩⟩⟩⟩⟩⟩⟩⟩⟩⟩
theorem go_2 : wsL_law0_r2.all goodWord = true := by decide +kernel
theorem gi_3 : ∀ w ∈ wsL_law0_r3, w ∈ lw_tbl := List.forall_mem_cons.mpr ⟨tb1 (i := 74) rfl, List.forall_mem_cons.mpr ⟨tb1 (i := 75) rfl, List.forall_mem_cons.mpr ⟨tb1 (i := 77) rfl, List.forall_mem_cons.mpr ⟨tb1 (i := 79) rfl, List.forall_mem_cons.mpr ⟨tb1 (i := 81) rfl, List.forall_mem_cons.mpr ⟨tb1 (i := 83) rfl, List.forall_mem_cons.mpr ⟨tb1 (i := 98) rfl, List.forall_mem_cons.mpr ⟨tb1 (i := 99) rfl, List.forall_mem_cons.mpr ⟨tb1 (i := 100) rfl, List.forall_mem_cons.mpr ⟨tb1 (i := 101) rfl, List.forall_mem_cons.mpr ⟨tb1 (i := 103) rfl, List.forall_mem_cons.mpr ⟨tb1 (i := 105) rfl, List.forall_mem_cons.mpr ⟨tb1 (i := 107) rfl, List.forall_mem_cons.mpr ⟨tb1 (i := 109) rfl, List.forall_mem_cons.mpr ⟨tb1 (i := 111) rfl, List.forall_mem_cons.mpr ⟨tb1 (i := 113) rfl, List.forall_mem_cons.mpr ⟨tb1 (i := 115) rfl, List.forall_mem_cons.mpr ⟨tb1 (i := 117) rfl, List.forall_mem_cons.mpr ⟨tb3 (i := 90) rfl, List.forall_mem_cons.mpr ⟨tb3 (i := 91) rfl, List.forall_mem_cons.mpr ⟨tb1 (i := 0) rfl, List.forall_mem_cons.mpr ⟨tb3 (i := 92) rfl, List.forall_mem_cons.mpr ⟨tb3 (i := 86) rfl, List.forall_mem_cons.mpr ⟨tb3 (i := 87) rfl, fun _ h => absurd h List.not_mem_nil⟩⟩⟩⟩⟩⟩⟩⟩⟩⟩⟩⟩⟩⟩⟩⟩⟩⟩⟩⟩⟩⟩⟩⟩
theorem go_3 : wsL_law0_r3.all goodWord = true := by decide +kernel
theorem gi_4 : ∀ w ∈ wsL_law0_r4, w ∈ lw_tbl := List.forall_mem_cons.mpr ⟨tb3 (i := 88) rfl, List.forall_mem_cons.mpr ⟨tb3 (i := 89) rfl, List.forall_mem_cons.mpr ⟨tb3 (i := 82) rfl, List.forall_mem_cons.mpr ⟨tb3 (i := 83) rfl, List.forall_mem_cons.mpr ⟨tb3 (i := 84) rfl, List.forall_mem_cons.mpr ⟨tb3 (i := 85) rfl, List.forall_mem_cons.mpr ⟨tb3 (i := 93) rfl, List.forall_mem_cons.mpr ⟨tb3 (i := 94) rfl, List.forall_mem_cons.mpr ⟨tb3 (i := 95) rfl, List.forall_mem_cons.mpr ⟨tb3 (i := 96) rfl, List.forall_mem_cons.mpr ⟨tb2 (i := 111) rfl, List.forall_mem_cons.mpr ⟨tb1 (i := 8) rfl, List.forall_mem_cons.mpr ⟨tb1 (i := 35) rfl, List.forall_mem_cons.mpr ⟨tb1 (i := 37) rfl, List.forall_mem_cons.mpr ⟨tb2 (i := 213) rfl, List.forall_mem_cons.mpr ⟨tb2 (i := 215) rfl, List.forall_mem_cons.mpr ⟨tb0 (i := 29) rfl, List.forall_mem_cons.mpr ⟨tb2 (i := 216) rfl, List.forall_mem_cons.mpr ⟨tb2 (i := 177) rfl, List.forall_mem_cons.mpr ⟨tb2 (i := 179) rfl, List.forall_mem_cons.mpr ⟨tb0 (i := 23) rfl, List.forall_mem_cons.mpr ⟨tb2 (i := 180) rfl, List.forall_mem_cons.mpr ⟨tb2 (i := 51) rfl, List.forall_mem_cons.mpr ⟨tb2 (i := 53) rfl, fun _ h => absurd h List.not_mem_nil⟩⟩⟩⟩⟩⟩⟩⟩⟩⟩⟩⟩⟩⟩⟩⟩⟩⟩⟩⟩⟩⟩⟩⟩
theorem go_4 : wsL_law0_r4.all goodWord = true := by decide +kernel
theorem gi_5 : ∀ w ∈ wsL_law0_r5, w ∈ lw_tbl := List.forall_mem_cons.mpr ⟨tb0 (i := 3) rfl, List.forall_mem_cons.mpr ⟨tb2 (i := 54) rfl, List.forall_mem_cons.mpr ⟨tb1 (i := 104) rfl, List.forall_mem_cons.mpr ⟨tb1 (i := 43) rfl, List.forall_mem_cons.mpr ⟨tb1 (i := 106) rfl, List.forall_mem_cons.mpr ⟨tb2 (i := 55) rfl, List.forall_mem_cons.mpr ⟨tb2 (i := 56) rfl, List.forall_mem_cons.mpr ⟨tb2 (i := 57) rfl, List.forall_mem_cons.mpr ⟨tb2 (i := 58) rfl, List.forall_mem_cons.mpr ⟨tb2 (i := 59) rfl, List.forall_mem_cons.mpr ⟨tb1 (i := 9) rfl, List.forall_mem_cons.mpr ⟨tb2 (i := 60) rfl, List.forall_mem_cons.mpr ⟨tb2 (i := 61) rfl, List.forall_mem_cons.mpr ⟨tb2 (i := 63) rfl, List.forall_mem_cons.mpr ⟨tb0 (i := 4) rfl, List.forall_mem_cons.mpr ⟨tb2 (i := 64) rfl, List.forall_mem_cons.mpr ⟨tb1 (i := 102) rfl, List.forall_mem_cons.mpr ⟨tb1 (i := 108) rfl, List.forall_mem_cons.mpr ⟨tb2 (i := 65) rfl, List.forall_mem_cons.mpr ⟨tb2 (i := 67) rfl, List.forall_mem_cons.mpr ⟨tb0 (i := 5) rfl, List.forall_mem_cons.mpr ⟨tb2 (i := 68) rfl, List.forall_mem_cons.mpr ⟨tb2 (i := 69) rfl, List.forall_mem_cons.mpr ⟨tb2 (i := 71) rfl, fun _ h => absurd h List.not_mem_nil⟩⟩⟩⟩⟩⟩⟩⟩⟩⟩⟩⟩⟩⟩⟩⟩⟩⟩⟩⟩⟩⟩⟩⟩
theorem go_5 : wsL_law0_r5.all goodWord = true := by decide +kernel
theorem gi_6 : ∀ w ∈ wsL_law0_r6, w ∈ lw_tbl := List.forall_mem_cons.mpr ⟨tb0 (i := 6) rfl, List.forall_mem_cons.mpr ⟨tb2 (i := 72) rfl, List.forall_mem_cons.mpr ⟨tb1 (i := 118) rfl, List.forall_mem_cons.mpr ⟨tb1 (i := 184) rfl, List.forall_mem_cons.mpr ⟨tb1 (i := 185) rfl, List.forall_mem_cons.mpr ⟨tb1 (i := 186) rfl, List.forall_mem_cons.mpr ⟨tb1 (i := 187) rfl, List.forall_mem_cons.mpr ⟨tb1 (i := 33) rfl, List.forall_mem_cons.mpr ⟨tb1 (i := 188) rfl, List.forall_mem_cons.mpr ⟨tb1 (i := 190) rfl, List.forall_mem_cons.mpr ⟨tb0 (i := 0) rfl, List.forall_mem_cons.mpr ⟨tb1 (i := 191) rfl, List.forall_mem_cons.mpr ⟨tb1 (i := 192) rfl, List.forall_mem_cons.mpr ⟨tb1 (i := 10) rfl, List.forall_mem_cons.mpr ⟨tb2 (i := 20) rfl, List.forall_mem_cons.mpr ⟨tb2 (i := 21) rfl, List.forall_mem_cons.mpr ⟨tb2 (i := 22) rfl, List.forall_mem_cons.mpr ⟨tb2 (i := 24) rfl, List.forall_mem_cons.mpr ⟨tb2 (i := 25) rfl, List.forall_mem_cons.mpr ⟨tb2 (i := 26) rfl, List.forall_mem_cons.mpr ⟨tb2 (i := 27) rfl, List.forall_mem_cons.mpr ⟨tb1 (i := 11) rfl, List.forall_mem_cons.mpr ⟨tb2 (i := 43) rfl, List.forall_mem_cons.mpr ⟨tb2 (i := 44) rfl, fun _ h => absurd h List.not_mem_nil⟩⟩⟩⟩⟩⟩⟩⟩⟩⟩⟩⟩⟩⟩⟩⟩⟩⟩⟩⟩⟩⟩⟩⟩
theorem go_6 : wsL_law0_r6.all goodWord = true := by decide +kernel
theorem gi_7 : ∀ w ∈ wsL_law0_r7, w ∈ lw_tbl := List.forall_mem_cons.mpr ⟨tb2 (i := 45) rfl, List.forall_mem_cons.mpr ⟨tb2 (i := 46) rfl, List.forall_mem_cons.mpr ⟨tb2 (i := 47) rfl, List.forall_mem_cons.mpr ⟨tb2 (i := 49) rfl, List.forall_mem_cons.mpr ⟨tb0 (i := 2) rfl, List.forall_mem_cons.mpr ⟨tb2 (i := 50) rfl, List.forall_mem_cons.mpr ⟨tb2 (i := 73) rfl, List.forall_mem_cons.mpr ⟨tb2 (i := 75) rfl, List.forall_mem_cons.mpr ⟨tb0 (i := 7) rfl, List.forall_mem_cons.mpr ⟨tb2 (i := 76) rfl, List.forall_mem_cons.mpr ⟨tb2 (i := 77) rfl, List.forall_mem_cons.mpr ⟨tb2 (i := 79) rfl, List.forall_mem_cons.mpr ⟨tb0 (i := 8) rfl, List.forall_mem_cons.mpr ⟨tb2 (i := 80) rfl, List.forall_mem_cons.mpr ⟨tb1 (i := 112) rfl, List.forall_mem_cons.mpr ⟨tb3 (i := 98) rfl, List.forall_mem_cons.mpr ⟨tb3 (i := 99) rfl, List.forall_mem_cons.mpr ⟨tb3 (i := 100) rfl, List.forall_mem_cons.mpr ⟨tb3 (i := 101) rfl, List.forall_mem_cons.mpr ⟨tb3 (i := 1) rfl, List.forall_mem_cons.mpr ⟨tb3 (i := 2) rfl, List.forall_mem_cons.mpr ⟨tb3 (i := 3) rfl, List.forall_mem_cons.mpr ⟨tb3 (i := 4) rfl, List.forall_mem_cons.mpr ⟨tb1 (i := 110) rfl, fun _ h => absurd h List.not_mem_nil⟩⟩⟩⟩⟩⟩⟩⟩⟩⟩⟩⟩⟩⟩⟩⟩⟩⟩⟩⟩⟩⟩⟩⟩
theorem go_7 : wsL_law0_r7.all goodWord = true := by decide +kernel
theorem gi_8 : ∀ w ∈ wsL_law0_r8, w ∈ lw_tbl := List.forall_mem_cons.mpr ⟨tb1 (i := 114) rfl, List.forall_mem_cons.mpr ⟨tb1 (i := 116) rfl, List.forall_mem_cons.mpr ⟨tb2 (i := 85) rfl, List.forall_mem_cons.mpr ⟨tb2 (i := 87) rfl, List.forall_mem_cons.mpr ⟨tb0 (i := 9) rfl, List.forall_mem_cons.mpr ⟨tb2 (i := 88) rfl, List.forall_mem_cons.mpr ⟨tb2 (i := 151) rfl, List.forall_mem_cons.mpr ⟨tb2 (i := 153) rfl, List.forall_mem_cons.mpr ⟨tb0 (i := 17) rfl, List.forall_mem_cons.mpr ⟨tb2 (i := 154) rfl, List.forall_mem_cons.mpr ⟨tb2 (i := 135) rfl, List.forall_mem_cons.mpr ⟨tb2 (i := 137) rfl, List.forall_mem_cons.mpr ⟨tb0 (i := 13) rfl, List.forall_mem_cons.mpr ⟨tb2 (i := 138) rfl, List.forall_mem_cons.mpr ⟨tb1 (i := 78) rfl, List.forall_mem_cons.mpr ⟨tb2 (i := 139) rfl, List.forall_mem_cons.mpr ⟨tb2 (i := 141) rfl, List.forall_mem_cons.mpr ⟨tb0 (i := 14) rfl, List.forall_mem_cons.mpr ⟨tb2 (i := 142) rfl, List.forall_mem_cons.mpr ⟨tb1 (i := 84) rfl, List.forall_mem_cons.mpr ⟨tb1 (i := 76) rfl, List.forall_mem_cons.mpr ⟨tb2 (i := 143) rfl, List.forall_mem_cons.mpr ⟨tb2 (i := 145) rfl, List.forall_mem_cons.mpr ⟨tb0 (i := 15) rfl, fun _ h => absurd h List.not_mem_nil⟩⟩⟩⟩⟩⟩⟩⟩⟩⟩⟩⟩⟩⟩⟩⟩⟩⟩⟩⟩⟩⟩⟩⟩
theorem go_8 : wsL_law0_r8.all goodWord = true := by decide +kernel
theorem gi_9 : ∀ w ∈ wsL_law0_r9, w ∈ lw_tbl := List.forall_mem_cons.mpr ⟨tb2 (i := 146) rfl, List.forall_mem_cons.mpr ⟨tb1 (i := 80) rfl, List.forall_mem_cons.mpr ⟨tb1 (i := 82) rfl, List.forall_mem_cons.mpr ⟨tb2 (i := 131) rfl, List.forall_mem_cons.mpr ⟨tb2 (i := 133) rfl, List.forall_mem_cons.mpr ⟨tb0 (i := 12) rfl, List.forall_mem_cons.mpr ⟨tb2 (i := 134) rfl, List.forall_mem_cons.mpr ⟨tb2 (i := 147) rfl, List.forall_mem_cons.mpr ⟨tb2 (i := 149) rfl, List.forall_mem_cons.mpr ⟨tb0 (i := 16) rfl, List.forall_mem_cons.mpr ⟨tb2 (i := 150) rfl, List.forall_mem_cons.mpr ⟨tb1 (i := 45) rfl, List.forall_mem_cons.mpr ⟨tb2 (i := 238) rfl, List.forall_mem_cons.mpr ⟨tb2 (i := 239) rfl, List.forall_mem_cons.mpr ⟨tb3 (i := 0) rfl, List.forall_mem_cons.mpr ⟨tb2 (i := 127) rfl, List.forall_mem_cons.mpr ⟨tb2 (i := 129) rfl, List.forall_mem_cons.mpr ⟨tb0 (i := 11) rfl, List.forall_mem_cons.mpr ⟨tb2 (i := 130) rfl, List.forall_mem_cons.mpr ⟨tb1 (i := 39) rfl, List.forall_mem_cons.mpr ⟨tb2 (i := 90) rfl, List.forall_mem_cons.mpr ⟨tb2 (i := 91) rfl, List.forall_mem_cons.mpr ⟨tb1 (i := 12) rfl, List.forall_mem_cons.mpr ⟨tb2 (i := 92) rfl, fun _ h => absurd h List.not_mem_nil⟩⟩⟩⟩⟩⟩⟩⟩⟩⟩⟩⟩⟩⟩⟩⟩⟩⟩⟩⟩⟩⟩⟩⟩
theorem go_9 : wsL_law0_r9.all goodWord = true := by decide +kernel
theorem gi_10 : ∀ w ∈ wsL_law0_r10, w ∈ lw_tbl := List.forall_mem_cons.mpr ⟨tb2 (i := 93) rfl, List.forall_mem_cons.mpr ⟨tb2 (i := 94) rfl, List.forall_mem_cons.mpr ⟨tb2 (i := 95) rfl, List.forall_mem_cons.mpr ⟨tb2 (i := 155) rfl, List.forall_mem_cons.mpr ⟨tb2 (i := 157) rfl, List.forall_mem_cons.mpr ⟨tb0 (i := 18) rfl, List.forall_mem_cons.mpr ⟨tb2 (i := 158) rfl, List.forall_mem_cons.mpr ⟨tb2 (i := 159) rfl, List.forall_mem_cons.mpr ⟨tb2 (i := 161) rfl, List.forall_mem_cons.mpr ⟨tb0 (i := 19) rfl, List.forall_mem_cons.mpr ⟨tb2 (i := 162) rfl, List.forall_mem_cons.mpr ⟨tb2 (i := 163) rfl, List.forall_mem_cons.mpr ⟨tb2 (i := 165) rfl, List.forall_mem_cons.mpr ⟨tb2 (i := 167) rfl, List.forall_mem_cons.mpr ⟨tb0 (i := 20) rfl, List.forall_mem_cons.mpr ⟨tb2 (i := 168) rfl, List.forall_mem_cons.mpr ⟨tb2 (i := 169) rfl, List.forall_mem_cons.mpr ⟨tb2 (i := 171) rfl, List.forall_mem_cons.mpr ⟨tb0 (i := 21) rfl, List.forall_mem_cons.mpr ⟨tb2 (i := 172) rfl, List.forall_mem_cons.mpr ⟨tb2 (i := 173) rfl, List.forall_mem_cons.mpr ⟨tb2 (i := 175) rfl, List.forall_mem_cons.mpr ⟨tb0 (i := 22) rfl, List.forall_mem_cons.mpr ⟨tb2 (i := 176) rfl, fun _ h => absurd h List.not_mem_nil⟩⟩⟩⟩⟩⟩⟩⟩⟩⟩⟩⟩⟩⟩⟩⟩⟩⟩⟩⟩⟩⟩⟩⟩
theorem go_10 : wsL_law0_r10.all goodWord = true := by decide +kernel
theorem gi_11 : ∀ w ∈ wsL_law0_r11, w ∈ lw_tbl := List.forall_mem_cons.mpr ⟨tb2 (i := 181) rfl, List.forall_mem_cons.mpr ⟨tb2 (i := 183) rfl, List.forall_mem_cons.mpr ⟨tb0 (i := 24) rfl, List.forall_mem_cons.mpr ⟨tb2 (i := 184) rfl, List.forall_mem_cons.mpr ⟨tb3 (i := 103) rfl, List.forall_mem_cons.mpr ⟨tb3 (i := 104) rfl, List.forall_mem_cons.mpr ⟨tb3 (i := 105) rfl, List.forall_mem_cons.mpr ⟨tb3 (i := 106) rfl, List.forall_mem_cons.mpr ⟨tb3 (i := 108) rfl, List.forall_mem_cons.mpr ⟨tb3 (i := 109) rfl, List.forall_mem_cons.mpr ⟨tb3 (i := 110) rfl, List.forall_mem_cons.mpr ⟨tb3 (i := 111) rfl, List.forall_mem_cons.mpr ⟨tb2 (i := 233) rfl, List.forall_mem_cons.mpr ⟨tb2 (i := 235) rfl, List.forall_mem_cons.mpr ⟨tb0 (i := 31) rfl, List.forall_mem_cons.mpr ⟨tb2 (i := 236) rfl, List.forall_mem_cons.mpr ⟨tb2 (i := 96) rfl, List.forall_mem_cons.mpr ⟨tb2 (i := 98) rfl, List.forall_mem_cons.mpr ⟨tb0 (i := 10) rfl, List.forall_mem_cons.mpr ⟨tb2 (i := 99) rfl, List.forall_mem_cons.mpr ⟨tb2 (i := 100) rfl, List.forall_mem_cons.mpr ⟨tb2 (i := 101) rfl, List.forall_mem_cons.mpr ⟨tb2 (i := 102) rfl, List.forall_mem_cons.mpr ⟨tb3 (i := 113) rfl, fun _ h => absurd h List.not_mem_nil⟩⟩⟩⟩⟩⟩⟩⟩⟩⟩⟩⟩⟩⟩⟩⟩⟩⟩⟩⟩⟩⟩⟩⟩
theorem go_11 : wsL_law0_r11.all goodWord = true := by decide +kernel
theorem gi_12 : ∀ w ∈ wsL_law0_r12, w ∈ lw_tbl := List.forall_mem_cons.mpr ⟨tb3 (i := 114) rfl, List.forall_mem_cons.mpr ⟨tb3 (i := 115) rfl, List.forall_mem_cons.mpr ⟨tb3 (i := 116) rfl, List.forall_mem_cons.mpr ⟨tb2 (i := 229) rfl, List.forall_mem_cons.mpr ⟨tb2 (i := 230) rfl, List.forall_mem_cons.mpr ⟨tb2 (i := 231) rfl, List.forall_mem_cons.mpr ⟨tb2 (i := 232) rfl, List.forall_mem_cons.mpr ⟨tb3 (i := 117) rfl, List.forall_mem_cons.mpr ⟨tb3 (i := 118) rfl, List.forall_mem_cons.mpr ⟨tb3 (i := 119) rfl, List.forall_mem_cons.mpr ⟨tb3 (i := 120) rfl, List.forall_mem_cons.mpr ⟨tb3 (i := 52) rfl, List.forall_mem_cons.mpr ⟨tb3 (i := 53) rfl, List.forall_mem_cons.mpr ⟨tb3 (i := 54) rfl, List.forall_mem_cons.mpr ⟨tb1 (i := 47) rfl, List.forall_mem_cons.mpr ⟨tb1 (i := 49) rfl, List.forall_mem_cons.mpr ⟨tb3 (i := 55) rfl, List.forall_mem_cons.mpr ⟨tb3 (i := 57) rfl, List.forall_mem_cons.mpr ⟨tb0 (i := 38) rfl, List.forall_mem_cons.mpr ⟨tb3 (i := 58) rfl, List.forall_mem_cons.mpr ⟨tb3 (i := 121) rfl, List.forall_mem_cons.mpr ⟨tb3 (i := 122) rfl, List.forall_mem_cons.mpr ⟨tb3 (i := 123) rfl, List.forall_mem_cons.mpr ⟨tb3 (i := 124) rfl, fun _ h => absurd h List.not_mem_nil⟩⟩⟩⟩⟩⟩⟩⟩⟩⟩⟩⟩⟩⟩⟩⟩⟩⟩⟩⟩⟩⟩⟩⟩
theorem go_12 : wsL_law0_r12.all goodWord = true := by decide +kernel
theorem gi_13 : ∀ w ∈ wsL_law0_r13, w ∈ lw_tbl := List.forall_mem_cons.mpr ⟨tb3 (i := 29) rfl, List.forall_mem_cons.mpr ⟨tb3 (i := 31) rfl, List.forall_mem_cons.mpr ⟨tb0 (i := 36) rfl, List.forall_mem_cons.mpr ⟨tb3 (i := 32) rfl, List.forall_mem_cons.mpr ⟨tb2 (i := 206) rfl, List.forall_mem_cons.mpr ⟨tb2 (i := 207) rfl, List.forall_mem_cons.mpr ⟨tb2 (i := 208) rfl, List.forall_mem_cons.mpr ⟨tb3 (i := 126) rfl, List.forall_mem_cons.mpr ⟨tb3 (i := 127) rfl, List.forall_mem_cons.mpr ⟨tb3 (i := 128) rfl, List.forall_mem_cons.mpr ⟨tb3 (i := 129) rfl, List.forall_mem_cons.mpr ⟨tb3 (i := 74) rfl, List.forall_mem_cons.mpr ⟨tb3 (i := 75) rfl, List.forall_mem_cons.mpr ⟨tb3 (i := 76) rfl, List.forall_mem_cons.mpr ⟨tb2 (i := 107) rfl, List.forall_mem_cons.mpr ⟨tb2 (i := 108) rfl, List.forall_mem_cons.mpr ⟨tb2 (i := 109) rfl, List.forall_mem_cons.mpr ⟨tb2 (i := 110) rfl, List.forall_mem_cons.mpr ⟨tb2 (i := 185) rfl, List.forall_mem_cons.mpr ⟨tb2 (i := 186) rfl, List.forall_mem_cons.mpr ⟨tb2 (i := 187) rfl, List.forall_mem_cons.mpr ⟨tb2 (i := 188) rfl, List.forall_mem_cons.mpr ⟨tb2 (i := 189) rfl, List.forall_mem_cons.mpr ⟨tb2 (i := 191) rfl, fun _ h => absurd h List.not_mem_nil⟩⟩⟩⟩⟩⟩⟩⟩⟩⟩⟩⟩⟩⟩⟩⟩⟩⟩⟩⟩⟩⟩⟩⟩
theorem go_13 : wsL_law0_r13.all goodWord = true := by decide +kernel
theorem gi_14 : ∀ w ∈ wsL_law0_r14, w ∈ lw_tbl := List.forall_mem_cons.mpr ⟨tb0 (i := 25) rfl, List.forall_mem_cons.mpr ⟨tb2 (i := 192) rfl, List.forall_mem_cons.mpr ⟨tb2 (i := 194) rfl, List.forall_mem_cons.mpr ⟨tb2 (i := 196) rfl, List.forall_mem_cons.mpr ⟨tb0 (i := 26) rfl, List.forall_mem_cons.mpr ⟨tb2 (i := 197) rfl, List.forall_mem_cons.mpr ⟨tb1 (i := 41) rfl, List.forall_mem_cons.mpr ⟨tb2 (i := 198) rfl, List.forall_mem_cons.mpr ⟨tb2 (i := 200) rfl, List.forall_mem_cons.mpr ⟨tb0 (i := 27) rfl, List.forall_mem_cons.mpr ⟨tb2 (i := 201) rfl, List.forall_mem_cons.mpr ⟨tb2 (i := 202) rfl, List.forall_mem_cons.mpr ⟨tb2 (i := 204) rfl, List.forall_mem_cons.mpr ⟨tb0 (i := 28) rfl, List.forall_mem_cons.mpr ⟨tb2 (i := 205) rfl, List.forall_mem_cons.mpr ⟨tb2 (i := 103) rfl, List.forall_mem_cons.mpr ⟨tb2 (i := 104) rfl, List.forall_mem_cons.mpr ⟨tb2 (i := 105) rfl, List.forall_mem_cons.mpr ⟨tb2 (i := 106) rfl, List.forall_mem_cons.mpr ⟨tb2 (i := 209) rfl, List.forall_mem_cons.mpr ⟨tb2 (i := 210) rfl, List.forall_mem_cons.mpr ⟨tb2 (i := 211) rfl, List.forall_mem_cons.mpr ⟨tb2 (i := 212) rfl, List.forall_mem_cons.mpr ⟨tb3 (i := 5) rfl, fun _ h => absurd h List.not_mem_nil⟩⟩⟩⟩⟩⟩⟩⟩⟩⟩⟩⟩⟩⟩⟩⟩⟩⟩⟩⟩⟩⟩⟩⟩
theorem go_14 : wsL_law0_r14.all goodWord = true := by decide +kernel
theorem gi_15 : ∀ w ∈ wsL_law0_r15, w ∈ lw_tbl := List.forall_mem_cons.mpr ⟨tb3 (i := 6) rfl, List.forall_mem_cons.mpr ⟨tb3 (i := 7) rfl, List.forall_mem_cons.mpr ⟨tb3 (i := 8) rfl, List.forall_mem_cons.mpr ⟨tb3 (i := 9) rfl, List.forall_mem_cons.mpr ⟨tb3 (i := 11) rfl, List.forall_mem_cons.mpr ⟨tb0 (i := 32) rfl, List.forall_mem_cons.mpr ⟨tb3 (i := 12) rfl, List.forall_mem_cons.mpr ⟨tb3 (i := 13) rfl, List.forall_mem_cons.mpr ⟨tb3 (i := 15) rfl, List.forall_mem_cons.mpr ⟨tb0 (i := 33) rfl, List.forall_mem_cons.mpr ⟨tb3 (i := 16) rfl, List.forall_mem_cons.mpr ⟨tb3 (i := 17) rfl, List.forall_mem_cons.mpr ⟨tb3 (i := 19) rfl, List.forall_mem_cons.mpr ⟨tb0 (i := 34) rfl, List.forall_mem_cons.mpr ⟨tb3 (i := 20) rfl, List.forall_mem_cons.mpr ⟨tb3 (i := 21) rfl, List.forall_mem_cons.mpr ⟨tb3 (i := 23) rfl, List.forall_mem_cons.mpr ⟨tb0 (i := 35) rfl, List.forall_mem_cons.mpr ⟨tb3 (i := 24) rfl, List.forall_mem_cons.mpr ⟨tb2 (i := 217) rfl, List.forall_mem_cons.mpr ⟨tb2 (i := 218) rfl, List.forall_mem_cons.mpr ⟨tb2 (i := 219) rfl, List.forall_mem_cons.mpr ⟨tb2 (i := 220) rfl, List.forall_mem_cons.mpr ⟨tb2 (i := 222) rfl, fun _ h => absurd h List.not_mem_nil⟩⟩⟩⟩⟩⟩⟩⟩⟩⟩⟩⟩⟩⟩⟩⟩⟩⟩⟩⟩⟩⟩⟩⟩
theorem go_15 : wsL_law0_r15.all goodWord = true := by decide +kernel
theorem gi_16 : ∀ w ∈ wsL_law0_r16, w ∈ lw_tbl := List.forall_mem_cons.mpr ⟨tb2 (i := 224) rfl, List.forall_mem_cons.mpr ⟨tb0 (i := 30) rfl, List.forall_mem_cons.mpr ⟨tb2 (i := 225) rfl, List.forall_mem_cons.mpr ⟨tb2 (i := 226) rfl, List.forall_mem_cons.mpr ⟨tb2 (i := 227) rfl, List.forall_mem_cons.mpr ⟨tb2 (i := 228) rfl, List.forall_mem_cons.mpr ⟨tb2 (i := 81) rfl, List.forall_mem_cons.mpr ⟨tb2 (i := 82) rfl, List.forall_mem_cons.mpr ⟨tb2 (i := 83) rfl, List.forall_mem_cons.mpr ⟨tb2 (i := 84) rfl, List.forall_mem_cons.mpr ⟨tb3 (i := 132) rfl, List.forall_mem_cons.mpr ⟨tb3 (i := 133) rfl, List.forall_mem_cons.mpr ⟨tb3 (i := 134) rfl, List.forall_mem_cons.mpr ⟨tb3 (i := 41) rfl, List.forall_mem_cons.mpr ⟨tb3 (i := 42) rfl, List.forall_mem_cons.mpr ⟨tb3 (i := 43) rfl, List.forall_mem_cons.mpr ⟨tb3 (i := 44) rfl, List.forall_mem_cons.mpr ⟨tb3 (i := 45) rfl, List.forall_mem_cons.mpr ⟨tb3 (i := 46) rfl, List.forall_mem_cons.mpr ⟨tb3 (i := 47) rfl, List.forall_mem_cons.mpr ⟨tb3 (i := 48) rfl, List.forall_mem_cons.mpr ⟨tb3 (i := 49) rfl, List.forall_mem_cons.mpr ⟨tb3 (i := 50) rfl, List.forall_mem_cons.mpr ⟨tb3 (i := 51) rfl, fun _ h => absurd h List.not_mem_nil⟩⟩⟩⟩⟩⟩⟩⟩⟩⟩⟩⟩⟩⟩⟩⟩⟩⟩⟩⟩⟩⟩⟩⟩
theorem go_16 : wsL_law0_r16.all goodWord = true := by decide +kernel
theorem gi_17 : ∀ w ∈ wsL_law0_r17, w ∈ lw_tbl := List.forall_mem_cons.mpr ⟨tb3 (i := 59) rfl, List.forall_mem_cons.mpr ⟨tb3 (i := 60) rfl, List.forall_mem_cons.mpr ⟨tb3 (i := 61) rfl, List.forall_mem_cons.mpr ⟨tb3 (i := 26) rfl, List.forall_mem_cons.mpr ⟨tb3 (i := 27) rfl, List.forall_mem_cons.mpr ⟨tb3 (i := 28) rfl, List.forall_mem_cons.mpr ⟨tb3 (i := 62) rfl, List.forall_mem_cons.mpr ⟨tb3 (i := 63) rfl, List.forall_mem_cons.mpr ⟨tb3 (i := 64) rfl, List.forall_mem_cons.mpr ⟨tb3 (i := 65) rfl, List.forall_mem_cons.mpr ⟨tb3 (i := 66) rfl, List.forall_mem_cons.mpr ⟨tb3 (i := 67) rfl, List.forall_mem_cons.mpr ⟨tb3 (i := 68) rfl, List.forall_mem_cons.mpr ⟨tb3 (i := 69) rfl, List.forall_mem_cons.mpr ⟨tb3 (i := 70) rfl, List.forall_mem_cons.mpr ⟨tb3 (i := 72) rfl, List.forall_mem_cons.mpr ⟨tb0 (i := 39) rfl, List.forall_mem_cons.mpr ⟨tb3 (i := 73) rfl, List.forall_mem_cons.mpr ⟨tb3 (i := 77) rfl, List.forall_mem_cons.mpr ⟨tb3 (i := 34) rfl, List.forall_mem_cons.mpr ⟨tb3 (i := 35) rfl, List.forall_mem_cons.mpr ⟨tb3 (i := 36) rfl, List.forall_mem_cons.mpr ⟨tb3 (i := 37) rfl, List.forall_mem_cons.mpr ⟨tb3 (i := 39) rfl, fun _ h => absurd h List.not_mem_nil⟩⟩⟩⟩⟩⟩⟩⟩⟩⟩⟩⟩⟩⟩⟩⟩⟩⟩⟩⟩⟩⟩⟩⟩
theorem go_17 : wsL_law0_r17.all goodWord = true := by decide +kernel
theorem gi_18 : ∀ w ∈ wsL_law0_r18, w ∈ lw_tbl := List.forall_mem_cons.mpr ⟨tb0 (i := 37) rfl, List.forall_mem_cons.mpr ⟨tb3 (i := 40) rfl, List.forall_mem_cons.mpr ⟨tb3 (i := 78) rfl, List.forall_mem_cons.mpr ⟨tb3 (i := 79) rfl, List.forall_mem_cons.mpr ⟨tb3 (i := 80) rfl, List.forall_mem_cons.mpr ⟨tb3 (i := 81) rfl, List.forall_mem_cons.mpr ⟨tb3 (i := 25) rfl, List.forall_mem_cons.mpr ⟨tb3 (i := 33) rfl, fun _ h => absurd h List.not_mem_nil⟩⟩⟩⟩⟩⟩⟩⟩
theorem go_18 : wsL_law0_r18.all goodWord = true := by decide +kernel
theorem gi_X3 : ∀ w ∈ wsX30, w ∈ lw_tbl := List.forall_mem_cons.mpr ⟨tb1 (i := 153) rfl, List.forall_mem_cons.mpr ⟨tb1 (i := 155) rfl, List.forall_mem_cons.mpr ⟨tb1 (i := 157) rfl, List.forall_mem_cons.mpr ⟨tb1 (i := 159) rfl, List.forall_mem_cons.mpr ⟨tb1 (i := 161) rfl, List.forall_mem_cons.mpr ⟨tb1 (i := 163) rfl, List.forall_mem_cons.mpr ⟨tb1 (i := 165) rfl, List.forall_mem_cons.mpr ⟨tb1 (i := 167) rfl, List.forall_mem_cons.mpr ⟨tb1 (i := 169) rfl, List.forall_mem_cons.mpr ⟨tb1 (i := 171) rfl, List.forall_mem_cons.mpr ⟨tb1 (i := 173) rfl, List.forall_mem_cons.mpr ⟨tb1 (i := 175) rfl, List.forall_mem_cons.mpr ⟨tb1 (i := 177) rfl, List.forall_mem_cons.mpr ⟨tb1 (i := 179) rfl, List.forall_mem_cons.mpr ⟨tb1 (i := 181) rfl, fun _ h => absurd h List.not_mem_nil⟩⟩⟩⟩⟩⟩⟩⟩⟩⟩⟩⟩⟩⟩⟩
theorem go_X3 : wsX30.all goodWord = true := by decide +kernel
theorem gi_X1 : ∀ w ∈ wsX10, w ∈ lw_tbl := List.forall_mem_cons.mpr ⟨tb1 (i := 50) rfl, List.forall_mem_cons.mpr ⟨tb1 (i := 52) rfl, List.forall_mem_cons.mpr ⟨tb1 (i := 54) rfl, List.forall_mem_cons.mpr ⟨tb1 (i := 56) rfl, List.forall_mem_cons.mpr ⟨tb1 (i := 58) rfl, List.forall_mem_cons.mpr ⟨tb1 (i := 60) rfl, List.forall_mem_cons.mpr ⟨tb1 (i := 62) rfl, List.forall_mem_cons.mpr ⟨tb1 (i := 64) rfl, List.forall_mem_cons.mpr ⟨tb1 (i := 66) rfl, fun _ h => absurd h List.not_mem_nil⟩⟩⟩⟩⟩⟩⟩⟩⟩
theorem go_X1 : wsX10.all goodWord = true := by decide +kernel
theorem gi_X2 : ∀ w ∈ wsX20, w ∈ lw_tbl := List.forall_mem_cons.mpr ⟨tb1 (i := 85) rfl, List.forall_mem_cons.mpr ⟨tb1 (i := 87) rfl, List.forall_mem_cons.mpr ⟨tb1 (i := 89) rfl, List.forall_mem_cons.mpr ⟨tb1 (i := 91) rfl, List.forall_mem_cons.mpr ⟨tb1 (i := 93) rfl, fun _ h => absurd h List.not_mem_nil⟩⟩⟩⟩⟩
theorem go_X2 : wsX20.all goodWord = true := by decide +kernel
theorem gi_X0 : ∀ w ∈ wsX00, w ∈ lw_tbl := List.forall_mem_cons.mpr ⟨tb1 (i := 119) rfl, List.forall_mem_cons.mpr ⟨tb1 (i := 121) rfl, List.forall_mem_cons.mpr ⟨tb1 (i := 123) rfl, List.forall_mem_cons.mpr ⟨tb1 (i := 125) rfl, List.forall_mem_cons.mpr ⟨tb1 (i := 127) rfl, List.forall_mem_cons.mpr ⟨tb1 (i := 129) rfl, List.forall_mem_cons.mpr ⟨tb1 (i := 131) rfl, List.forall_mem_cons.mpr ⟨tb1 (i := 133) rfl, List.forall_mem_cons.mpr ⟨tb1 (i := 135) rfl, fun _ h => absurd h List.not_mem_nil⟩⟩⟩⟩⟩⟩⟩⟩⟩
theorem go_X0 : wsX00.all goodWord = true := by decide +kernel
theorem gi_all : ∀ w ∈ wsL_law0, w ∈ lw_tbl := by
  intro w h
  unfold wsL_law0 at h
  simp only [List.mem_append, List.not_mem_nil, or_false] at h
  rcases h with ((((h | h | h | h | h | h | h | h | h | h | h | h | h | h | h | h | h | h) | h) | h) | h) | h
  · exact gi_1 w h
  · exact gi_2 w h
  · exact gi_3 w h
  · exact gi_4 w h
  · exact gi_5 w h
  · exact gi_6 w h
  · exact gi_7 w h
  · exact gi_8 w h
  · exact gi_9 w h
  · exact gi_10 w h
  · exact gi_11 w h
  · exact gi_12 w h
  · exact gi_13 w h
  · exact gi_14 w h
  · exact gi_15 w h
  · exact gi_16 w h
  · exact gi_17 w h
  · exact gi_18 w h
  · exact gi_X3 w h
  · exact gi_X1 w h
  · exact gi_X2 w h
  · exact gi_X0 w h
theorem go_all : ∀ w ∈ wsL_law0, goodWord w = true := by
  intro w h
  unfold wsL_law0 at h
  simp only [List.mem_append, List.not_mem_nil, or_false] at h
  rcases h with ((((h | h | h | h | h | h | h | h | h | h | h | h | h | h | h | h | h | h) | h) | h) | h) | h
  · exact List.all_eq_true.mp go_1 w h
  · exact List.all_eq_true.mp go_2 w h
  · exact List.all_eq_true.mp go_3 w h
  · exact List.all_eq_true.mp go_4 w h
  · exact List.all_eq_true.mp go_5 w h
  · exact List.all_eq_true.mp go_6 w h
  · exact List.all_eq_true.mp go_7 w h
  · exact List.all_eq_true.mp go_8 w h
  · exact List.all_eq_true.mp go_9 w h
  · exact List.all_eq_true.mp go_10 w h
  · exact List.all_eq_true.mp go_11 w h
  · exact List.all_eq_true.mp go_12 w h
  · exact List.all_eq_true.mp go_13 w h
  · exact List.all_eq_true.mp go_14 w h
  · exact List.all_eq_true.mp go_15 w h
  · exact List.all_eq_true.mp go_16 w h
  · exact List.all_eq_true.mp go_17 w h
  · exact List.all_eq_true.mp go_18 w h
  · exact List.all_eq_true.mp go_X3 w h
  · exact List.all_eq_true.mp go_X1 w h
  · exact List.all_eq_true.mp go_X2 w h
  · exact List.all_eq_true.mp go_X0 w h
abbrev vwCl : List vw_C := [(RX0, TX0, 9), (RX1, TX1, 9), (RX2, TX2, 5), (RX3, TX3, 15)]
end
section
theorem dX0_init_0 : decode cX0_init 0 = .ok (.aload_n 0, 1) := by decide +kernel
theorem dX0_init_1 : decode cX0_init 1 = .ok (.invokespecial 1, 3) := by decide +kernel
theorem dX0_init_4 : decode cX0_init 4 = .ok (.aload_n 0, 1) := by decide +kernel
theorem dX0_init_5 : decode cX0_init 5 = .ok (.iconst 0, 1) := by decide +kernel
theorem dX0_init_6 : decode cX0_init 6 = .ok (.putfield 7, 3) := by decide +kernel
theorem dX0_init_9 : decode cX0_init 9 = .ok (.aload_n 0, 1) := by decide +kernel
theorem dX0_init_10 : decode cX0_init 10 = .ok (.iconst 0, 1) := by decide +kernel
theorem dX0_init_11 : decode cX0_init 11 = .ok (.putfield 13, 3) := by decide +kernel
theorem dX0_init_14 : decode cX0_init 14 = .ok (.aload_n 0, 1) := by decide +kernel
theorem dX0_init_15 : decode cX0_init 15 = .ok (.iconst 0, 1) := by decide +kernel
theorem dX0_init_16 : decode cX0_init 16 = .ok (.putfield 16, 3) := by decide +kernel
theorem dX0_init_19 : decode cX0_init 19 = .ok (.aload_n 0, 1) := by decide +kernel
theorem dX0_init_20 : decode cX0_init 20 = .ok (.iconst 0, 1) := by decide +kernel
theorem dX0_init_21 : decode cX0_init 21 = .ok (.putfield 19, 3) := by decide +kernel
theorem dX0_init_24 : decode cX0_init 24 = .ok (.aload_n 0, 1) := by decide +kernel
theorem dX0_init_25 : decode cX0_init 25 = .ok (.iconst 0, 1) := by decide +kernel
theorem dX0_init_26 : decode cX0_init 26 = .ok (.putfield 22, 3) := by decide +kernel
theorem dX0_init_29 : decode cX0_init 29 = .ok (.aload_n 0, 1) := by decide +kernel
theorem dX0_init_30 : decode cX0_init 30 = .ok (.iconst 0, 1) := by decide +kernel
theorem dX0_init_31 : decode cX0_init 31 = .ok (.putfield 25, 3) := by decide +kernel
theorem dX0_init_34 : decode cX0_init 34 = .ok (.aload_n 0, 1) := by decide +kernel
theorem dX0_init_35 : decode cX0_init 35 = .ok (.iconst 0, 1) := by decide +kernel
theorem dX0_init_36 : decode cX0_init 36 = .ok (.putfield 28, 3) := by decide +kernel
theorem dX0_init_39 : decode cX0_init 39 = .ok (.aload_n 0, 1) := by decide +kernel
theorem dX0_init_40 : decode cX0_init 40 = .ok (.iconst 0, 1) := by decide +kernel
theorem dX0_init_41 : decode cX0_init 41 = .ok (.putfield 31, 3) := by decide +kernel
theorem dX0_init_44 : decode cX0_init 44 = .ok (.aload_n 0, 1) := by decide +kernel
theorem dX0_init_45 : decode cX0_init 45 = .ok (.iconst 0, 1) := by decide +kernel
theorem dX0_init_46 : decode cX0_init 46 = .ok (.putfield 34, 3) := by decide +kernel
theorem dX0_init_49 : decode cX0_init 49 = .ok (.return_, 1) := by decide +kernel
theorem dX1_init_0 : decode cX1_init 0 = .ok (.aload_n 0, 1) := by decide +kernel
theorem dX1_init_1 : decode cX1_init 1 = .ok (.invokespecial 3, 3) := by decide +kernel
theorem dX1_init_4 : decode cX1_init 4 = .ok (.aload_n 0, 1) := by decide +kernel
theorem dX1_init_5 : decode cX1_init 5 = .ok (.iconst 4, 1) := by decide +kernel
theorem dX1_init_6 : decode cX1_init 6 = .ok (.newarray .int, 2) := by decide +kernel
theorem dX1_init_8 : decode cX1_init 8 = .ok (.putfield 9, 3) := by decide +kernel
theorem dX1_init_11 : decode cX1_init 11 = .ok (.aload_n 0, 1) := by decide +kernel
theorem dX1_init_12 : decode cX1_init 12 = .ok (.iconst 0, 1) := by decide +kernel
theorem dX1_init_13 : decode cX1_init 13 = .ok (.putfield 15, 3) := by decide +kernel
theorem dX1_init_16 : decode cX1_init 16 = .ok (.aload_n 0, 1) := by decide +kernel
theorem dX1_init_17 : decode cX1_init 17 = .ok (.iconst 0, 1) := by decide +kernel
theorem dX1_init_18 : decode cX1_init 18 = .ok (.putfield 19, 3) := by decide +kernel
theorem dX1_init_21 : decode cX1_init 21 = .ok (.aload_n 0, 1) := by decide +kernel
theorem dX1_init_22 : decode cX1_init 22 = .ok (.iconst 0, 1) := by decide +kernel
theorem dX1_init_23 : decode cX1_init 23 = .ok (.putfield 22, 3) := by decide +kernel
theorem dX1_init_26 : decode cX1_init 26 = .ok (.aload_n 0, 1) := by decide +kernel
theorem dX1_init_27 : decode cX1_init 27 = .ok (.iconst (-1), 1) := by decide +kernel
theorem dX1_init_28 : decode cX1_init 28 = .ok (.putfield 25, 3) := by decide +kernel
theorem dX1_init_31 : decode cX1_init 31 = .ok (.aload_n 0, 1) := by decide +kernel
theorem dX1_init_32 : decode cX1_init 32 = .ok (.iconst 0, 1) := by decide +kernel
theorem dX1_init_33 : decode cX1_init 33 = .ok (.putfield 29, 3) := by decide +kernel
theorem dX1_init_36 : decode cX1_init 36 = .ok (.aload_n 0, 1) := by decide +kernel
theorem dX1_init_37 : decode cX1_init 37 = .ok (.iconst 0, 1) := by decide +kernel
theorem dX1_init_38 : decode cX1_init 38 = .ok (.putfield 32, 3) := by decide +kernel
theorem dX1_init_41 : decode cX1_init 41 = .ok (.aload_n 0, 1) := by decide +kernel
theorem dX1_init_42 : decode cX1_init 42 = .ok (.iconst 0, 1) := by decide +kernel
theorem dX1_init_43 : decode cX1_init 43 = .ok (.putfield 35, 3) := by decide +kernel
theorem dX1_init_46 : decode cX1_init 46 = .ok (.aload_n 0, 1) := by decide +kernel
theorem dX1_init_47 : decode cX1_init 47 = .ok (.iconst 0, 1) := by decide +kernel
theorem dX1_init_48 : decode cX1_init 48 = .ok (.putfield 38, 3) := by decide +kernel
theorem dX1_init_51 : decode cX1_init 51 = .ok (.return_, 1) := by decide +kernel
theorem dX2_init_0 : decode cX2_init 0 = .ok (.aload_n 0, 1) := by decide +kernel
theorem dX2_init_1 : decode cX2_init 1 = .ok (.invokespecial 3, 3) := by decide +kernel
theorem dX2_init_4 : decode cX2_init 4 = .ok (.aload_n 0, 1) := by decide +kernel
theorem dX2_init_5 : decode cX2_init 5 = .ok (.iconst 0, 1) := by decide +kernel
theorem dX2_init_6 : decode cX2_init 6 = .ok (.putfield 9, 3) := by decide +kernel
theorem dX2_init_9 : decode cX2_init 9 = .ok (.aload_n 0, 1) := by decide +kernel
theorem dX2_init_10 : decode cX2_init 10 = .ok (.iconst 0, 1) := by decide +kernel
theorem dX2_init_11 : decode cX2_init 11 = .ok (.putfield 15, 3) := by decide +kernel
theorem dX2_init_14 : decode cX2_init 14 = .ok (.aload_n 0, 1) := by decide +kernel
theorem dX2_init_15 : decode cX2_init 15 = .ok (.iconst 0, 1) := by decide +kernel
theorem dX2_init_16 : decode cX2_init 16 = .ok (.putfield 18, 3) := by decide +kernel
theorem dX2_init_19 : decode cX2_init 19 = .ok (.aload_n 0, 1) := by decide +kernel
theorem dX2_init_20 : decode cX2_init 20 = .ok (.iconst (-1), 1) := by decide +kernel
theorem dX2_init_21 : decode cX2_init 21 = .ok (.putfield 21, 3) := by decide +kernel
theorem dX2_init_24 : decode cX2_init 24 = .ok (.aload_n 0, 1) := by decide +kernel
theorem dX2_init_25 : decode cX2_init 25 = .ok (.iconst (-1), 1) := by decide +kernel
theorem dX2_init_26 : decode cX2_init 26 = .ok (.putfield 24, 3) := by decide +kernel
theorem dX2_init_29 : decode cX2_init 29 = .ok (.return_, 1) := by decide +kernel
theorem dX3_init_0 : decode cX3_init 0 = .ok (.aload_n 0, 1) := by decide +kernel
theorem dX3_init_1 : decode cX3_init 1 = .ok (.invokespecial 1, 3) := by decide +kernel
theorem dX3_init_4 : decode cX3_init 4 = .ok (.aload_n 0, 1) := by decide +kernel
theorem dX3_init_5 : decode cX3_init 5 = .ok (.bipush 8, 2) := by decide +kernel
theorem dX3_init_7 : decode cX3_init 7 = .ok (.anewarray 9, 3) := by decide +kernel
theorem dX3_init_10 : decode cX3_init 10 = .ok (.putfield 11, 3) := by decide +kernel
theorem dX3_init_13 : decode cX3_init 13 = .ok (.aload_n 0, 1) := by decide +kernel
theorem dX3_init_14 : decode cX3_init 14 = .ok (.bipush 12, 2) := by decide +kernel
theorem dX3_init_16 : decode cX3_init 16 = .ok (.anewarray 15, 3) := by decide +kernel
theorem dX3_init_19 : decode cX3_init 19 = .ok (.putfield 17, 3) := by decide +kernel
theorem dX3_init_22 : decode cX3_init 22 = .ok (.aload_n 0, 1) := by decide +kernel
theorem dX3_init_23 : decode cX3_init 23 = .ok (.bipush 6, 2) := by decide +kernel
theorem dX3_init_25 : decode cX3_init 25 = .ok (.anewarray 21, 3) := by decide +kernel
theorem dX3_init_28 : decode cX3_init 28 = .ok (.putfield 23, 3) := by decide +kernel
theorem dX3_init_31 : decode cX3_init 31 = .ok (.aload_n 0, 1) := by decide +kernel
theorem dX3_init_32 : decode cX3_init 32 = .ok (.iconst 0, 1) := by decide +kernel
theorem dX3_init_33 : decode cX3_init 33 = .ok (.putfield 27, 3) := by decide +kernel
theorem dX3_init_36 : decode cX3_init 36 = .ok (.aload_n 0, 1) := by decide +kernel
theorem dX3_init_37 : decode cX3_init 37 = .ok (.iconst 0, 1) := by decide +kernel
theorem dX3_init_38 : decode cX3_init 38 = .ok (.putfield 31, 3) := by decide +kernel
theorem dX3_init_41 : decode cX3_init 41 = .ok (.aload_n 0, 1) := by decide +kernel
theorem dX3_init_42 : decode cX3_init 42 = .ok (.iconst 0, 1) := by decide +kernel
theorem dX3_init_43 : decode cX3_init 43 = .ok (.putfield 34, 3) := by decide +kernel
theorem dX3_init_46 : decode cX3_init 46 = .ok (.aload_n 0, 1) := by decide +kernel
theorem dX3_init_47 : decode cX3_init 47 = .ok (.iconst 4, 1) := by decide +kernel
theorem dX3_init_48 : decode cX3_init 48 = .ok (.newarray .int, 2) := by decide +kernel
theorem dX3_init_50 : decode cX3_init 50 = .ok (.putfield 37, 3) := by decide +kernel
theorem dX3_init_53 : decode cX3_init 53 = .ok (.aload_n 0, 1) := by decide +kernel
theorem dX3_init_54 : decode cX3_init 54 = .ok (.iconst 4, 1) := by decide +kernel
theorem dX3_init_55 : decode cX3_init 55 = .ok (.newarray .int, 2) := by decide +kernel
theorem dX3_init_57 : decode cX3_init 57 = .ok (.putfield 41, 3) := by decide +kernel
theorem dX3_init_60 : decode cX3_init 60 = .ok (.aload_n 0, 1) := by decide +kernel
theorem dX3_init_61 : decode cX3_init 61 = .ok (.iconst 0, 1) := by decide +kernel
theorem dX3_init_62 : decode cX3_init 62 = .ok (.putfield 44, 3) := by decide +kernel
theorem dX3_init_65 : decode cX3_init 65 = .ok (.aload_n 0, 1) := by decide +kernel
theorem dX3_init_66 : decode cX3_init 66 = .ok (.iconst 0, 1) := by decide +kernel
theorem dX3_init_67 : decode cX3_init 67 = .ok (.putfield 47, 3) := by decide +kernel
theorem dX3_init_70 : decode cX3_init 70 = .ok (.aload_n 0, 1) := by decide +kernel
theorem dX3_init_71 : decode cX3_init 71 = .ok (.iconst 1, 1) := by decide +kernel
theorem dX3_init_72 : decode cX3_init 72 = .ok (.putfield 50, 3) := by decide +kernel
theorem dX3_init_75 : decode cX3_init 75 = .ok (.aload_n 0, 1) := by decide +kernel
theorem dX3_init_76 : decode cX3_init 76 = .ok (.iconst 0, 1) := by decide +kernel
theorem dX3_init_77 : decode cX3_init 77 = .ok (.putfield 54, 3) := by decide +kernel
theorem dX3_init_80 : decode cX3_init 80 = .ok (.aload_n 0, 1) := by decide +kernel
theorem dX3_init_81 : decode cX3_init 81 = .ok (.iconst 0, 1) := by decide +kernel
theorem dX3_init_82 : decode cX3_init 82 = .ok (.putfield 57, 3) := by decide +kernel
theorem dX3_init_85 : decode cX3_init 85 = .ok (.aload_n 0, 1) := by decide +kernel
theorem dX3_init_86 : decode cX3_init 86 = .ok (.iconst 0, 1) := by decide +kernel
theorem dX3_init_87 : decode cX3_init 87 = .ok (.putfield 60, 3) := by decide +kernel
theorem dX3_init_90 : decode cX3_init 90 = .ok (.aload_n 0, 1) := by decide +kernel
theorem dX3_init_91 : decode cX3_init 91 = .ok (.lconst 0, 1) := by decide +kernel
theorem dX3_init_92 : decode cX3_init 92 = .ok (.putfield 63, 3) := by decide +kernel
theorem dX3_init_95 : decode cX3_init 95 = .ok (.iconst 0, 1) := by decide +kernel
theorem dX3_init_96 : decode cX3_init 96 = .ok (.istore_n 1, 1) := by decide +kernel
theorem dX3_init_97 : decode cX3_init 97 = .ok (.iload_n 1, 1) := by decide +kernel
theorem dX3_init_98 : decode cX3_init 98 = .ok (.bipush 8, 2) := by decide +kernel
theorem dX3_init_100 : decode cX3_init 100 = .ok (.if_icmp .ge 22, 3) := by decide +kernel
theorem dX3_init_103 : decode cX3_init 103 = .ok (.aload_n 0, 1) := by decide +kernel
theorem dX3_init_104 : decode cX3_init 104 = .ok (.getfield 11, 3) := by decide +kernel
theorem dX3_init_107 : decode cX3_init 107 = .ok (.iload_n 1, 1) := by decide +kernel
theorem dX3_init_108 : decode cX3_init 108 = .ok (.new 9, 3) := by decide +kernel
theorem dX3_init_111 : decode cX3_init 111 = .ok (.dup, 1) := by decide +kernel
theorem dX3_init_112 : decode cX3_init 112 = .ok (.invokespecial 67, 3) := by decide +kernel
theorem dX3_init_115 : decode cX3_init 115 = .ok (.aastore, 1) := by decide +kernel
theorem dX3_init_116 : decode cX3_init 116 = .ok (.iinc 1 1, 3) := by decide +kernel
theorem dX3_init_119 : decode cX3_init 119 = .ok (.goto (-22), 3) := by decide +kernel
theorem dX3_init_122 : decode cX3_init 122 = .ok (.iconst 0, 1) := by decide +kernel
theorem dX3_init_123 : decode cX3_init 123 = .ok (.istore_n 1, 1) := by decide +kernel
theorem dX3_init_124 : decode cX3_init 124 = .ok (.iload_n 1, 1) := by decide +kernel
theorem dX3_init_125 : decode cX3_init 125 = .ok (.bipush 12, 2) := by decide +kernel
theorem dX3_init_127 : decode cX3_init 127 = .ok (.if_icmp .ge 22, 3) := by decide +kernel
theorem dX3_init_130 : decode cX3_init 130 = .ok (.aload_n 0, 1) := by decide +kernel
theorem dX3_init_131 : decode cX3_init 131 = .ok (.getfield 17, 3) := by decide +kernel
theorem dX3_init_134 : decode cX3_init 134 = .ok (.iload_n 1, 1) := by decide +kernel
theorem dX3_init_135 : decode cX3_init 135 = .ok (.new 15, 3) := by decide +kernel
theorem dX3_init_138 : decode cX3_init 138 = .ok (.dup, 1) := by decide +kernel
theorem dX3_init_139 : decode cX3_init 139 = .ok (.invokespecial 68, 3) := by decide +kernel
theorem dX3_init_142 : decode cX3_init 142 = .ok (.aastore, 1) := by decide +kernel
theorem dX3_init_143 : decode cX3_init 143 = .ok (.iinc 1 1, 3) := by decide +kernel
theorem dX3_init_146 : decode cX3_init 146 = .ok (.goto (-22), 3) := by decide +kernel
theorem dX3_init_149 : decode cX3_init 149 = .ok (.iconst 0, 1) := by decide +kernel
theorem dX3_init_150 : decode cX3_init 150 = .ok (.istore_n 1, 1) := by decide +kernel
theorem dX3_init_151 : decode cX3_init 151 = .ok (.iload_n 1, 1) := by decide +kernel
theorem dX3_init_152 : decode cX3_init 152 = .ok (.bipush 6, 2) := by decide +kernel
theorem dX3_init_154 : decode cX3_init 154 = .ok (.if_icmp .ge 22, 3) := by decide +kernel
theorem dX3_init_157 : decode cX3_init 157 = .ok (.aload_n 0, 1) := by decide +kernel
theorem dX3_init_158 : decode cX3_init 158 = .ok (.getfield 23, 3) := by decide +kernel
theorem dX3_init_161 : decode cX3_init 161 = .ok (.iload_n 1, 1) := by decide +kernel
theorem dX3_init_162 : decode cX3_init 162 = .ok (.new 21, 3) := by decide +kernel
theorem dX3_init_165 : decode cX3_init 165 = .ok (.dup, 1) := by decide +kernel
theorem dX3_init_166 : decode cX3_init 166 = .ok (.invokespecial 69, 3) := by decide +kernel
theorem dX3_init_169 : decode cX3_init 169 = .ok (.aastore, 1) := by decide +kernel
theorem dX3_init_170 : decode cX3_init 170 = .ok (.iinc 1 1, 3) := by decide +kernel
theorem dX3_init_173 : decode cX3_init 173 = .ok (.goto (-22), 3) := by decide +kernel
theorem dX3_init_176 : decode cX3_init 176 = .ok (.return_, 1) := by decide +kernel
theorem dX3_person_0 : decode cX3_person 0 = .ok (.aload_n 0, 1) := by decide +kernel
theorem dX3_person_1 : decode cX3_person 1 = .ok (.getfield 27, 3) := by decide +kernel
theorem dX3_person_4 : decode cX3_person 4 = .ok (.bipush 8, 2) := by decide +kernel
theorem dX3_person_6 : decode cX3_person 6 = .ok (.if_icmp .lt 13, 3) := by decide +kernel
theorem dX3_person_9 : decode cX3_person 9 = .ok (.new 70, 3) := by decide +kernel
theorem dX3_person_12 : decode cX3_person 12 = .ok (.dup, 1) := by decide +kernel
theorem dX3_person_13 : decode cX3_person 13 = .ok (.ldc 72, 2) := by decide +kernel
theorem dX3_person_15 : decode cX3_person 15 = .ok (.invokespecial 74, 3) := by decide +kernel
theorem dX3_person_18 : decode cX3_person 18 = .ok (.athrow, 1) := by decide +kernel
theorem dX3_person_19 : decode cX3_person 19 = .ok (.aload_n 0, 1) := by decide +kernel
theorem dX3_person_20 : decode cX3_person 20 = .ok (.getfield 27, 3) := by decide +kernel
theorem dX3_person_23 : decode cX3_person 23 = .ok (.istore_n 3, 1) := by decide +kernel
theorem dX3_person_24 : decode cX3_person 24 = .ok (.aload_n 0, 1) := by decide +kernel
theorem dX3_person_25 : decode cX3_person 25 = .ok (.getfield 11, 3) := by decide +kernel
theorem dX3_person_28 : decode cX3_person 28 = .ok (.iload_n 3, 1) := by decide +kernel
theorem dX3_person_29 : decode cX3_person 29 = .ok (.aaload, 1) := by decide +kernel
theorem dX3_person_30 : decode cX3_person 30 = .ok (.iload_n 1, 1) := by decide +kernel
theorem dX3_person_31 : decode cX3_person 31 = .ok (.putfield 77, 3) := by decide +kernel
theorem dX3_person_34 : decode cX3_person 34 = .ok (.aload_n 0, 1) := by decide +kernel
theorem dX3_person_35 : decode cX3_person 35 = .ok (.getfield 11, 3) := by decide +kernel
theorem dX3_person_38 : decode cX3_person 38 = .ok (.iload_n 3, 1) := by decide +kernel
theorem dX3_person_39 : decode cX3_person 39 = .ok (.aaload, 1) := by decide +kernel
theorem dX3_person_40 : decode cX3_person 40 = .ok (.iload_n 2, 1) := by decide +kernel
theorem dX3_person_41 : decode cX3_person 41 = .ok (.putfield 80, 3) := by decide +kernel
theorem dX3_person_44 : decode cX3_person 44 = .ok (.aload_n 0, 1) := by decide +kernel
theorem dX3_person_45 : decode cX3_person 45 = .ok (.dup, 1) := by decide +kernel
theorem dX3_person_46 : decode cX3_person 46 = .ok (.getfield 27, 3) := by decide +kernel
theorem dX3_person_49 : decode cX3_person 49 = .ok (.iconst 1, 1) := by decide +kernel
theorem dX3_person_50 : decode cX3_person 50 = .ok (.iadd, 1) := by decide +kernel
theorem dX3_person_51 : decode cX3_person 51 = .ok (.putfield 27, 3) := by decide +kernel
theorem dX3_person_54 : decode cX3_person 54 = .ok (.aload_n 0, 1) := by decide +kernel
theorem dX3_person_55 : decode cX3_person 55 = .ok (.invokevirtual 83, 3) := by decide +kernel
theorem dX3_person_58 : decode cX3_person 58 = .ok (.iload_n 3, 1) := by decide +kernel
theorem dX3_person_59 : decode cX3_person 59 = .ok (.ireturn, 1) := by decide +kernel
theorem dX3_skill_0 : decode cX3_skill 0 = .ok (.aload_n 0, 1) := by decide +kernel
theorem dX3_skill_1 : decode cX3_skill 1 = .ok (.iload_n 1, 1) := by decide +kernel
theorem dX3_skill_2 : decode cX3_skill 2 = .ok (.invokevirtual 86, 3) := by decide +kernel
theorem dX3_skill_5 : decode cX3_skill 5 = .ok (.iload_n 2, 1) := by decide +kernel
theorem dX3_skill_6 : decode cX3_skill 6 = .ok (.invokestatic 90, 3) := by decide +kernel
theorem dX3_skill_9 : decode cX3_skill 9 = .ok (.iload_n 3, 1) := by decide +kernel
theorem dX3_skill_10 : decode cX3_skill 10 = .ok (.iconst 0, 1) := by decide +kernel
theorem dX3_skill_11 : decode cX3_skill 11 = .ok (.bipush 9, 2) := by decide +kernel
theorem dX3_skill_13 : decode cX3_skill 13 = .ok (.invokestatic 93, 3) := by decide +kernel
theorem dX3_skill_16 : decode cX3_skill 16 = .ok (.aload_n 0, 1) := by decide +kernel
theorem dX3_skill_17 : decode cX3_skill 17 = .ok (.getfield 11, 3) := by decide +kernel
theorem dX3_skill_20 : decode cX3_skill 20 = .ok (.iload_n 1, 1) := by decide +kernel
theorem dX3_skill_21 : decode cX3_skill 21 = .ok (.aaload, 1) := by decide +kernel
theorem dX3_skill_22 : decode cX3_skill 22 = .ok (.getfield 97, 3) := by decide +kernel
theorem dX3_skill_25 : decode cX3_skill 25 = .ok (.iload_n 2, 1) := by decide +kernel
theorem dX3_skill_26 : decode cX3_skill 26 = .ok (.iaload, 1) := by decide +kernel
theorem dX3_skill_27 : decode cX3_skill 27 = .ok (.istore 4, 2) := by decide +kernel
theorem dX3_skill_29 : decode cX3_skill 29 = .ok (.aload_n 0, 1) := by decide +kernel
theorem dX3_skill_30 : decode cX3_skill 30 = .ok (.getfield 11, 3) := by decide +kernel
theorem dX3_skill_33 : decode cX3_skill 33 = .ok (.iload_n 1, 1) := by decide +kernel
theorem dX3_skill_34 : decode cX3_skill 34 = .ok (.aaload, 1) := by decide +kernel
theorem dX3_skill_35 : decode cX3_skill 35 = .ok (.getfield 97, 3) := by decide +kernel
theorem dX3_skill_38 : decode cX3_skill 38 = .ok (.iload_n 2, 1) := by decide +kernel
theorem dX3_skill_39 : decode cX3_skill 39 = .ok (.iload_n 3, 1) := by decide +kernel
theorem dX3_skill_40 : decode cX3_skill 40 = .ok (.iastore, 1) := by decide +kernel
theorem dX3_skill_41 : decode cX3_skill 41 = .ok (.iload 4, 2) := by decide +kernel
theorem dX3_skill_43 : decode cX3_skill 43 = .ok (.ireturn, 1) := by decide +kernel
theorem dX3_walk_0 : decode cX3_walk 0 = .ok (.aload_n 0, 1) := by decide +kernel
theorem dX3_walk_1 : decode cX3_walk 1 = .ok (.iload_n 1, 1) := by decide +kernel
theorem dX3_walk_2 : decode cX3_walk 2 = .ok (.invokevirtual 86, 3) := by decide +kernel
theorem dX3_walk_5 : decode cX3_walk 5 = .ok (.iload_n 2, 1) := by decide +kernel
theorem dX3_walk_6 : decode cX3_walk 6 = .ok (.iconst 0, 1) := by decide +kernel
theorem dX3_walk_7 : decode cX3_walk 7 = .ok (.bipush 99, 2) := by decide +kernel
theorem dX3_walk_9 : decode cX3_walk 9 = .ok (.invokestatic 93, 3) := by decide +kernel
theorem dX3_walk_12 : decode cX3_walk 12 = .ok (.aload_n 0, 1) := by decide +kernel
theorem dX3_walk_13 : decode cX3_walk 13 = .ok (.invokevirtual 100, 3) := by decide +kernel
theorem dX3_walk_16 : decode cX3_walk 16 = .ok (.istore_n 3, 1) := by decide +kernel
theorem dX3_walk_17 : decode cX3_walk 17 = .ok (.aload_n 0, 1) := by decide +kernel
theorem dX3_walk_18 : decode cX3_walk 18 = .ok (.getfield 11, 3) := by decide +kernel
theorem dX3_walk_21 : decode cX3_walk 21 = .ok (.iload_n 1, 1) := by decide +kernel
theorem dX3_walk_22 : decode cX3_walk 22 = .ok (.aaload, 1) := by decide +kernel
theorem dX3_walk_23 : decode cX3_walk 23 = .ok (.iload_n 2, 1) := by decide +kernel
theorem dX3_walk_24 : decode cX3_walk 24 = .ok (.putfield 104, 3) := by decide +kernel
theorem dX3_walk_27 : decode cX3_walk 27 = .ok (.iconst 0, 1) := by decide +kernel
theorem dX3_walk_28 : decode cX3_walk 28 = .ok (.istore 4, 2) := by decide +kernel
theorem dX3_walk_30 : decode cX3_walk 30 = .ok (.iload 4, 2) := by decide +kernel
theorem dX3_walk_32 : decode cX3_walk 32 = .ok (.aload_n 0, 1) := by decide +kernel
theorem dX3_walk_33 : decode cX3_walk 33 = .ok (.getfield 34, 3) := by decide +kernel
theorem dX3_walk_36 : decode cX3_walk 36 = .ok (.if_icmp .ge 52, 3) := by decide +kernel
theorem dX3_walk_39 : decode cX3_walk 39 = .ok (.aload_n 0, 1) := by decide +kernel
theorem dX3_walk_40 : decode cX3_walk 40 = .ok (.getfield 23, 3) := by decide +kernel
theorem dX3_walk_43 : decode cX3_walk 43 = .ok (.iload 4, 2) := by decide +kernel
theorem dX3_walk_45 : decode cX3_walk 45 = .ok (.aaload, 1) := by decide +kernel
theorem dX3_walk_46 : decode cX3_walk 46 = .ok (.getfield 107, 3) := by decide +kernel
theorem dX3_walk_49 : decode cX3_walk 49 = .ok (.ifCond .eq 33, 3) := by decide +kernel
theorem dX3_walk_52 : decode cX3_walk 52 = .ok (.aload_n 0, 1) := by decide +kernel
theorem dX3_walk_53 : decode cX3_walk 53 = .ok (.iload_n 1, 1) := by decide +kernel
theorem dX3_walk_54 : decode cX3_walk 54 = .ok (.iload 4, 2) := by decide +kernel
theorem dX3_walk_56 : decode cX3_walk 56 = .ok (.invokevirtual 110, 3) := by decide +kernel
theorem dX3_walk_59 : decode cX3_walk 59 = .ok (.ifCond .eq 23, 3) := by decide +kernel
theorem dX3_walk_62 : decode cX3_walk 62 = .ok (.aload_n 0, 1) := by decide +kernel
theorem dX3_walk_63 : decode cX3_walk 63 = .ok (.iload 4, 2) := by decide +kernel
theorem dX3_walk_65 : decode cX3_walk 65 = .ok (.invokevirtual 114, 3) := by decide +kernel
theorem dX3_walk_68 : decode cX3_walk 68 = .ok (.aload_n 0, 1) := by decide +kernel
theorem dX3_walk_69 : decode cX3_walk 69 = .ok (.aload_n 0, 1) := by decide +kernel
theorem dX3_walk_70 : decode cX3_walk 70 = .ok (.getfield 23, 3) := by decide +kernel
theorem dX3_walk_73 : decode cX3_walk 73 = .ok (.iload 4, 2) := by decide +kernel
theorem dX3_walk_75 : decode cX3_walk 75 = .ok (.aaload, 1) := by decide +kernel
theorem dX3_walk_76 : decode cX3_walk 76 = .ok (.getfield 117, 3) := by decide +kernel
theorem dX3_walk_79 : decode cX3_walk 79 = .ok (.invokevirtual 120, 3) := by decide +kernel
theorem dX3_walk_82 : decode cX3_walk 82 = .ok (.iinc 4 1, 3) := by decide +kernel
theorem dX3_walk_85 : decode cX3_walk 85 = .ok (.goto (-55), 3) := by decide +kernel
theorem dX3_walk_88 : decode cX3_walk 88 = .ok (.iload_n 3, 1) := by decide +kernel
theorem dX3_walk_89 : decode cX3_walk 89 = .ok (.aload_n 0, 1) := by decide +kernel
theorem dX3_walk_90 : decode cX3_walk 90 = .ok (.invokevirtual 100, 3) := by decide +kernel
theorem dX3_walk_93 : decode cX3_walk 93 = .ok (.iconst (-1), 1) := by decide +kernel
theorem dX3_walk_94 : decode cX3_walk 94 = .ok (.ixor, 1) := by decide +kernel
theorem dX3_walk_95 : decode cX3_walk 95 = .ok (.iand, 1) := by decide +kernel
theorem dX3_walk_96 : decode cX3_walk 96 = .ok (.ireturn, 1) := by decide +kernel
theorem dX3_kit_0 : decode cX3_kit 0 = .ok (.iload_n 1, 1) := by decide +kernel
theorem dX3_kit_1 : decode cX3_kit 1 = .ok (.invokestatic 90, 3) := by decide +kernel
theorem dX3_kit_4 : decode cX3_kit 4 = .ok (.iload_n 2, 1) := by decide +kernel
theorem dX3_kit_5 : decode cX3_kit 5 = .ok (.iconst 1, 1) := by decide +kernel
theorem dX3_kit_6 : decode cX3_kit 6 = .ok (.bipush 90, 2) := by decide +kernel
theorem dX3_kit_8 : decode cX3_kit 8 = .ok (.invokestatic 93, 3) := by decide +kernel
theorem dX3_kit_11 : decode cX3_kit 11 = .ok (.iload_n 3, 1) := by decide +kernel
theorem dX3_kit_12 : decode cX3_kit 12 = .ok (.iconst 1, 1) := by decide +kernel
theorem dX3_kit_13 : decode cX3_kit 13 = .ok (.iconst 5, 1) := by decide +kernel
theorem dX3_kit_14 : decode cX3_kit 14 = .ok (.invokestatic 93, 3) := by decide +kernel
theorem dX3_kit_17 : decode cX3_kit 17 = .ok (.aload_n 0, 1) := by decide +kernel
theorem dX3_kit_18 : decode cX3_kit 18 = .ok (.getfield 31, 3) := by decide +kernel
theorem dX3_kit_21 : decode cX3_kit 21 = .ok (.bipush 12, 2) := by decide +kernel
theorem dX3_kit_23 : decode cX3_kit 23 = .ok (.if_icmp .lt 13, 3) := by decide +kernel
theorem dX3_kit_26 : decode cX3_kit 26 = .ok (.new 70, 3) := by decide +kernel
theorem dX3_kit_29 : decode cX3_kit 29 = .ok (.dup, 1) := by decide +kernel
theorem dX3_kit_30 : decode cX3_kit 30 = .ok (.ldc 123, 2) := by decide +kernel
theorem dX3_kit_32 : decode cX3_kit 32 = .ok (.invokespecial 74, 3) := by decide +kernel
theorem dX3_kit_35 : decode cX3_kit 35 = .ok (.athrow, 1) := by decide +kernel
theorem dX3_kit_36 : decode cX3_kit 36 = .ok (.aload_n 0, 1) := by decide +kernel
theorem dX3_kit_37 : decode cX3_kit 37 = .ok (.getfield 31, 3) := by decide +kernel
theorem dX3_kit_40 : decode cX3_kit 40 = .ok (.istore 4, 2) := by decide +kernel
theorem dX3_kit_42 : decode cX3_kit 42 = .ok (.aload_n 0, 1) := by decide +kernel
theorem dX3_kit_43 : decode cX3_kit 43 = .ok (.getfield 17, 3) := by decide +kernel
theorem dX3_kit_46 : decode cX3_kit 46 = .ok (.iload 4, 2) := by decide +kernel
theorem dX3_kit_48 : decode cX3_kit 48 = .ok (.aaload, 1) := by decide +kernel
theorem dX3_kit_49 : decode cX3_kit 49 = .ok (.iload_n 1, 1) := by decide +kernel
theorem dX3_kit_50 : decode cX3_kit 50 = .ok (.putfield 125, 3) := by decide +kernel
theorem dX3_kit_53 : decode cX3_kit 53 = .ok (.aload_n 0, 1) := by decide +kernel
theorem dX3_kit_54 : decode cX3_kit 54 = .ok (.getfield 17, 3) := by decide +kernel
theorem dX3_kit_57 : decode cX3_kit 57 = .ok (.iload 4, 2) := by decide +kernel
theorem dX3_kit_59 : decode cX3_kit 59 = .ok (.aaload, 1) := by decide +kernel
theorem dX3_kit_60 : decode cX3_kit 60 = .ok (.iload_n 2, 1) := by decide +kernel
theorem dX3_kit_61 : decode cX3_kit 61 = .ok (.putfield 126, 3) := by decide +kernel
theorem dX3_kit_64 : decode cX3_kit 64 = .ok (.aload_n 0, 1) := by decide +kernel
theorem dX3_kit_65 : decode cX3_kit 65 = .ok (.getfield 17, 3) := by decide +kernel
theorem dX3_kit_68 : decode cX3_kit 68 = .ok (.iload 4, 2) := by decide +kernel
theorem dX3_kit_70 : decode cX3_kit 70 = .ok (.aaload, 1) := by decide +kernel
theorem dX3_kit_71 : decode cX3_kit 71 = .ok (.iload_n 3, 1) := by decide +kernel
theorem dX3_kit_72 : decode cX3_kit 72 = .ok (.putfield 129, 3) := by decide +kernel
theorem dX3_kit_75 : decode cX3_kit 75 = .ok (.aload_n 0, 1) := by decide +kernel
theorem dX3_kit_76 : decode cX3_kit 76 = .ok (.dup, 1) := by decide +kernel
theorem dX3_kit_77 : decode cX3_kit 77 = .ok (.getfield 31, 3) := by decide +kernel
theorem dX3_kit_80 : decode cX3_kit 80 = .ok (.iconst 1, 1) := by decide +kernel
theorem dX3_kit_81 : decode cX3_kit 81 = .ok (.iadd, 1) := by decide +kernel
theorem dX3_kit_82 : decode cX3_kit 82 = .ok (.putfield 31, 3) := by decide +kernel
theorem dX3_kit_85 : decode cX3_kit 85 = .ok (.iload 4, 2) := by decide +kernel
theorem dX3_kit_87 : decode cX3_kit 87 = .ok (.ireturn, 1) := by decide +kernel
theorem dX3_inspect_0 : decode cX3_inspect 0 = .ok (.aload_n 0, 1) := by decide +kernel
theorem dX3_inspect_1 : decode cX3_inspect 1 = .ok (.iload_n 1, 1) := by decide +kernel
theorem dX3_inspect_2 : decode cX3_inspect 2 = .ok (.invokevirtual 132, 3) := by decide +kernel
theorem dX3_inspect_5 : decode cX3_inspect 5 = .ok (.aload_n 0, 1) := by decide +kernel
theorem dX3_inspect_6 : decode cX3_inspect 6 = .ok (.getfield 17, 3) := by decide +kernel
theorem dX3_inspect_9 : decode cX3_inspect 9 = .ok (.iload_n 1, 1) := by decide +kernel
theorem dX3_inspect_10 : decode cX3_inspect 10 = .ok (.aaload, 1) := by decide +kernel
theorem dX3_inspect_11 : decode cX3_inspect 11 = .ok (.getfield 135, 3) := by decide +kernel
theorem dX3_inspect_14 : decode cX3_inspect 14 = .ok (.istore_n 2, 1) := by decide +kernel
theorem dX3_inspect_15 : decode cX3_inspect 15 = .ok (.aload_n 0, 1) := by decide +kernel
theorem dX3_inspect_16 : decode cX3_inspect 16 = .ok (.getfield 17, 3) := by decide +kernel
theorem dX3_inspect_19 : decode cX3_inspect 19 = .ok (.iload_n 1, 1) := by decide +kernel
theorem dX3_inspect_20 : decode cX3_inspect 20 = .ok (.aaload, 1) := by decide +kernel
theorem dX3_inspect_21 : decode cX3_inspect 21 = .ok (.aload_n 0, 1) := by decide +kernel
theorem dX3_inspect_22 : decode cX3_inspect 22 = .ok (.getfield 44, 3) := by decide +kernel
theorem dX3_inspect_25 : decode cX3_inspect 25 = .ok (.putfield 135, 3) := by decide +kernel
theorem dX3_inspect_28 : decode cX3_inspect 28 = .ok (.iload_n 2, 1) := by decide +kernel
theorem dX3_inspect_29 : decode cX3_inspect 29 = .ok (.ireturn, 1) := by decide +kernel
theorem dX3_put_0 : decode cX3_put 0 = .ok (.aload_n 0, 1) := by decide +kernel
theorem dX3_put_1 : decode cX3_put 1 = .ok (.iload_n 1, 1) := by decide +kernel
theorem dX3_put_2 : decode cX3_put 2 = .ok (.invokevirtual 132, 3) := by decide +kernel
theorem dX3_put_5 : decode cX3_put 5 = .ok (.iload_n 2, 1) := by decide +kernel
theorem dX3_put_6 : decode cX3_put 6 = .ok (.iconst (-1), 1) := by decide +kernel
theorem dX3_put_7 : decode cX3_put 7 = .ok (.if_icmp .eq 8, 3) := by decide +kernel
theorem dX3_put_10 : decode cX3_put 10 = .ok (.aload_n 0, 1) := by decide +kernel
theorem dX3_put_11 : decode cX3_put 11 = .ok (.iload_n 2, 1) := by decide +kernel
theorem dX3_put_12 : decode cX3_put 12 = .ok (.invokevirtual 138, 3) := by decide +kernel
theorem dX3_put_15 : decode cX3_put 15 = .ok (.aload_n 0, 1) := by decide +kernel
theorem dX3_put_16 : decode cX3_put 16 = .ok (.getfield 17, 3) := by decide +kernel
theorem dX3_put_19 : decode cX3_put 19 = .ok (.iload_n 1, 1) := by decide +kernel
theorem dX3_put_20 : decode cX3_put 20 = .ok (.aaload, 1) := by decide +kernel
theorem dX3_put_21 : decode cX3_put 21 = .ok (.getfield 141, 3) := by decide +kernel
theorem dX3_put_24 : decode cX3_put 24 = .ok (.istore_n 3, 1) := by decide +kernel
theorem dX3_put_25 : decode cX3_put 25 = .ok (.iload_n 3, 1) := by decide +kernel
theorem dX3_put_26 : decode cX3_put 26 = .ok (.iload_n 2, 1) := by decide +kernel
theorem dX3_put_27 : decode cX3_put 27 = .ok (.if_icmp .ne 13, 3) := by decide +kernel
theorem dX3_put_30 : decode cX3_put 30 = .ok (.new 70, 3) := by decide +kernel
theorem dX3_put_33 : decode cX3_put 33 = .ok (.dup, 1) := by decide +kernel
theorem dX3_put_34 : decode cX3_put 34 = .ok (.ldc 144, 2) := by decide +kernel
theorem dX3_put_36 : decode cX3_put 36 = .ok (.invokespecial 74, 3) := by decide +kernel
theorem dX3_put_39 : decode cX3_put 39 = .ok (.athrow, 1) := by decide +kernel
theorem dX3_put_40 : decode cX3_put 40 = .ok (.aload_n 0, 1) := by decide +kernel
theorem dX3_put_41 : decode cX3_put 41 = .ok (.getfield 17, 3) := by decide +kernel
theorem dX3_put_44 : decode cX3_put 44 = .ok (.iload_n 1, 1) := by decide +kernel
theorem dX3_put_45 : decode cX3_put 45 = .ok (.aaload, 1) := by decide +kernel
theorem dX3_put_46 : decode cX3_put 46 = .ok (.iload_n 2, 1) := by decide +kernel
theorem dX3_put_47 : decode cX3_put 47 = .ok (.putfield 141, 3) := by decide +kernel
theorem dX3_put_50 : decode cX3_put 50 = .ok (.iload_n 3, 1) := by decide +kernel
theorem dX3_put_51 : decode cX3_put 51 = .ok (.iconst (-1), 1) := by decide +kernel
theorem dX3_put_52 : decode cX3_put 52 = .ok (.if_icmp .eq 8, 3) := by decide +kernel
theorem dX3_put_55 : decode cX3_put 55 = .ok (.aload_n 0, 1) := by decide +kernel
theorem dX3_put_56 : decode cX3_put 56 = .ok (.iload_n 3, 1) := by decide +kernel
theorem dX3_put_57 : decode cX3_put 57 = .ok (.invokevirtual 146, 3) := by decide +kernel
theorem dX3_put_60 : decode cX3_put 60 = .ok (.iload_n 2, 1) := by decide +kernel
theorem dX3_put_61 : decode cX3_put 61 = .ok (.iconst (-1), 1) := by decide +kernel
theorem dX3_put_62 : decode cX3_put 62 = .ok (.if_icmp .eq 8, 3) := by decide +kernel
theorem dX3_put_65 : decode cX3_put 65 = .ok (.aload_n 0, 1) := by decide +kernel
theorem dX3_put_66 : decode cX3_put 66 = .ok (.iload_n 2, 1) := by decide +kernel
theorem dX3_put_67 : decode cX3_put 67 = .ok (.invokevirtual 146, 3) := by decide +kernel
theorem dX3_put_70 : decode cX3_put 70 = .ok (.iload_n 3, 1) := by decide +kernel
theorem dX3_put_71 : decode cX3_put 71 = .ok (.ireturn, 1) := by decide +kernel
theorem dX3_gag_0 : decode cX3_gag 0 = .ok (.iload_n 1, 1) := by decide +kernel
theorem dX3_gag_1 : decode cX3_gag 1 = .ok (.invokestatic 90, 3) := by decide +kernel
theorem dX3_gag_4 : decode cX3_gag 4 = .ok (.aload_n 0, 1) := by decide +kernel
theorem dX3_gag_5 : decode cX3_gag 5 = .ok (.iload_n 2, 1) := by decide +kernel
theorem dX3_gag_6 : decode cX3_gag 6 = .ok (.invokevirtual 86, 3) := by decide +kernel
theorem dX3_gag_9 : decode cX3_gag 9 = .ok (.iload_n 3, 1) := by decide +kernel
theorem dX3_gag_10 : decode cX3_gag 10 = .ok (.iconst 0, 1) := by decide +kernel
theorem dX3_gag_11 : decode cX3_gag 11 = .ok (.bipush 99, 2) := by decide +kernel
theorem dX3_gag_13 : decode cX3_gag 13 = .ok (.invokestatic 93, 3) := by decide +kernel
theorem dX3_gag_16 : decode cX3_gag 16 = .ok (.iload 4, 2) := by decide +kernel
theorem dX3_gag_18 : decode cX3_gag 18 = .ok (.iconst 1, 1) := by decide +kernel
theorem dX3_gag_19 : decode cX3_gag 19 = .ok (.bipush 30, 2) := by decide +kernel
theorem dX3_gag_21 : decode cX3_gag 21 = .ok (.invokestatic 93, 3) := by decide +kernel
theorem dX3_gag_24 : decode cX3_gag 24 = .ok (.aload_n 0, 1) := by decide +kernel
theorem dX3_gag_25 : decode cX3_gag 25 = .ok (.getfield 34, 3) := by decide +kernel
theorem dX3_gag_28 : decode cX3_gag 28 = .ok (.bipush 6, 2) := by decide +kernel
theorem dX3_gag_30 : decode cX3_gag 30 = .ok (.if_icmp .lt 13, 3) := by decide +kernel
theorem dX3_gag_33 : decode cX3_gag 33 = .ok (.new 70, 3) := by decide +kernel
theorem dX3_gag_36 : decode cX3_gag 36 = .ok (.dup, 1) := by decide +kernel
theorem dX3_gag_37 : decode cX3_gag 37 = .ok (.ldc 149, 2) := by decide +kernel
theorem dX3_gag_39 : decode cX3_gag 39 = .ok (.invokespecial 74, 3) := by decide +kernel
theorem dX3_gag_42 : decode cX3_gag 42 = .ok (.athrow, 1) := by decide +kernel
theorem dX3_gag_43 : decode cX3_gag 43 = .ok (.aload_n 0, 1) := by decide +kernel
theorem dX3_gag_44 : decode cX3_gag 44 = .ok (.getfield 34, 3) := by decide +kernel
theorem dX3_gag_47 : decode cX3_gag 47 = .ok (.istore 5, 2) := by decide +kernel
theorem dX3_gag_49 : decode cX3_gag 49 = .ok (.aload_n 0, 1) := by decide +kernel
theorem dX3_gag_50 : decode cX3_gag 50 = .ok (.getfield 23, 3) := by decide +kernel
theorem dX3_gag_53 : decode cX3_gag 53 = .ok (.iload 5, 2) := by decide +kernel
theorem dX3_gag_55 : decode cX3_gag 55 = .ok (.aaload, 1) := by decide +kernel
theorem dX3_gag_56 : decode cX3_gag 56 = .ok (.iload_n 1, 1) := by decide +kernel
theorem dX3_gag_57 : decode cX3_gag 57 = .ok (.putfield 117, 3) := by decide +kernel
theorem dX3_gag_60 : decode cX3_gag 60 = .ok (.aload_n 0, 1) := by decide +kernel
theorem dX3_gag_61 : decode cX3_gag 61 = .ok (.getfield 23, 3) := by decide +kernel
theorem dX3_gag_64 : decode cX3_gag 64 = .ok (.iload 5, 2) := by decide +kernel
theorem dX3_gag_66 : decode cX3_gag 66 = .ok (.aaload, 1) := by decide +kernel
theorem dX3_gag_67 : decode cX3_gag 67 = .ok (.iload_n 2, 1) := by decide +kernel
theorem dX3_gag_68 : decode cX3_gag 68 = .ok (.putfield 151, 3) := by decide +kernel
theorem dX3_gag_71 : decode cX3_gag 71 = .ok (.aload_n 0, 1) := by decide +kernel
theorem dX3_gag_72 : decode cX3_gag 72 = .ok (.getfield 23, 3) := by decide +kernel
theorem dX3_gag_75 : decode cX3_gag 75 = .ok (.iload 5, 2) := by decide +kernel
theorem dX3_gag_77 : decode cX3_gag 77 = .ok (.aaload, 1) := by decide +kernel
theorem dX3_gag_78 : decode cX3_gag 78 = .ok (.iload_n 3, 1) := by decide +kernel
theorem dX3_gag_79 : decode cX3_gag 79 = .ok (.putfield 154, 3) := by decide +kernel
theorem dX3_gag_82 : decode cX3_gag 82 = .ok (.aload_n 0, 1) := by decide +kernel
theorem dX3_gag_83 : decode cX3_gag 83 = .ok (.getfield 23, 3) := by decide +kernel
theorem dX3_gag_86 : decode cX3_gag 86 = .ok (.iload 5, 2) := by decide +kernel
theorem dX3_gag_88 : decode cX3_gag 88 = .ok (.aaload, 1) := by decide +kernel
theorem dX3_gag_89 : decode cX3_gag 89 = .ok (.iload 4, 2) := by decide +kernel
theorem dX3_gag_91 : decode cX3_gag 91 = .ok (.putfield 155, 3) := by decide +kernel
theorem dX3_gag_94 : decode cX3_gag 94 = .ok (.aload_n 0, 1) := by decide +kernel
theorem dX3_gag_95 : decode cX3_gag 95 = .ok (.dup, 1) := by decide +kernel
theorem dX3_gag_96 : decode cX3_gag 96 = .ok (.getfield 34, 3) := by decide +kernel
theorem dX3_gag_99 : decode cX3_gag 99 = .ok (.iconst 1, 1) := by decide +kernel
theorem dX3_gag_100 : decode cX3_gag 100 = .ok (.iadd, 1) := by decide +kernel
theorem dX3_gag_101 : decode cX3_gag 101 = .ok (.putfield 34, 3) := by decide +kernel
theorem dX3_gag_104 : decode cX3_gag 104 = .ok (.iload 5, 2) := by decide +kernel
theorem dX3_gag_106 : decode cX3_gag 106 = .ok (.ireturn, 1) := by decide +kernel
theorem dX3_change_0 : decode cX3_change 0 = .ok (.aload_n 0, 1) := by decide +kernel
theorem dX3_change_1 : decode cX3_change 1 = .ok (.iload_n 1, 1) := by decide +kernel
theorem dX3_change_2 : decode cX3_change 2 = .ok (.invokevirtual 138, 3) := by decide +kernel
theorem dX3_change_5 : decode cX3_change 5 = .ok (.aload_n 0, 1) := by decide +kernel
theorem dX3_change_6 : decode cX3_change 6 = .ok (.iload_n 2, 1) := by decide +kernel
theorem dX3_change_7 : decode cX3_change 7 = .ok (.invokevirtual 86, 3) := by decide +kernel
theorem dX3_change_10 : decode cX3_change 10 = .ok (.iload_n 3, 1) := by decide +kernel
theorem dX3_change_11 : decode cX3_change 11 = .ok (.iconst 0, 1) := by decide +kernel
theorem dX3_change_12 : decode cX3_change 12 = .ok (.bipush 99, 2) := by decide +kernel
theorem dX3_change_14 : decode cX3_change 14 = .ok (.invokestatic 93, 3) := by decide +kernel
theorem dX3_change_17 : decode cX3_change 17 = .ok (.iload 4, 2) := by decide +kernel
theorem dX3_change_19 : decode cX3_change 19 = .ok (.iconst 1, 1) := by decide +kernel
theorem dX3_change_20 : decode cX3_change 20 = .ok (.bipush 30, 2) := by decide +kernel
theorem dX3_change_22 : decode cX3_change 22 = .ok (.invokestatic 93, 3) := by decide +kernel
theorem dX3_change_25 : decode cX3_change 25 = .ok (.aload_n 0, 1) := by decide +kernel
theorem dX3_change_26 : decode cX3_change 26 = .ok (.getfield 23, 3) := by decide +kernel
theorem dX3_change_29 : decode cX3_change 29 = .ok (.iload_n 1, 1) := by decide +kernel
theorem dX3_change_30 : decode cX3_change 30 = .ok (.aaload, 1) := by decide +kernel
theorem dX3_change_31 : decode cX3_change 31 = .ok (.getfield 158, 3) := by decide +kernel
theorem dX3_change_34 : decode cX3_change 34 = .ok (.invokestatic 161, 3) := by decide +kernel
theorem dX3_change_37 : decode cX3_change 37 = .ok (.istore 5, 2) := by decide +kernel
theorem dX3_change_39 : decode cX3_change 39 = .ok (.aload_n 0, 1) := by decide +kernel
theorem dX3_change_40 : decode cX3_change 40 = .ok (.getfield 23, 3) := by decide +kernel
theorem dX3_change_43 : decode cX3_change 43 = .ok (.iload_n 1, 1) := by decide +kernel
theorem dX3_change_44 : decode cX3_change 44 = .ok (.aaload, 1) := by decide +kernel
theorem dX3_change_45 : decode cX3_change 45 = .ok (.iload_n 2, 1) := by decide +kernel
theorem dX3_change_46 : decode cX3_change 46 = .ok (.putfield 151, 3) := by decide +kernel
theorem dX3_change_49 : decode cX3_change 49 = .ok (.aload_n 0, 1) := by decide +kernel
theorem dX3_change_50 : decode cX3_change 50 = .ok (.getfield 23, 3) := by decide +kernel
theorem dX3_change_53 : decode cX3_change 53 = .ok (.iload_n 1, 1) := by decide +kernel
theorem dX3_change_54 : decode cX3_change 54 = .ok (.aaload, 1) := by decide +kernel
theorem dX3_change_55 : decode cX3_change 55 = .ok (.iload_n 3, 1) := by decide +kernel
theorem dX3_change_56 : decode cX3_change 56 = .ok (.putfield 154, 3) := by decide +kernel
theorem dX3_change_59 : decode cX3_change 59 = .ok (.aload_n 0, 1) := by decide +kernel
theorem dX3_change_60 : decode cX3_change 60 = .ok (.getfield 23, 3) := by decide +kernel
theorem dX3_change_63 : decode cX3_change 63 = .ok (.iload_n 1, 1) := by decide +kernel
theorem dX3_change_64 : decode cX3_change 64 = .ok (.aaload, 1) := by decide +kernel
theorem dX3_change_65 : decode cX3_change 65 = .ok (.iload 4, 2) := by decide +kernel
theorem dX3_change_67 : decode cX3_change 67 = .ok (.putfield 155, 3) := by decide +kernel
theorem dX3_change_70 : decode cX3_change 70 = .ok (.aload_n 0, 1) := by decide +kernel
theorem dX3_change_71 : decode cX3_change 71 = .ok (.iload_n 1, 1) := by decide +kernel
theorem dX3_change_72 : decode cX3_change 72 = .ok (.invokevirtual 146, 3) := by decide +kernel
theorem dX3_change_75 : decode cX3_change 75 = .ok (.iload 5, 2) := by decide +kernel
theorem dX3_change_77 : decode cX3_change 77 = .ok (.ireturn, 1) := by decide +kernel
theorem dX3_rehearse_0 : decode cX3_rehearse 0 = .ok (.aload_n 0, 1) := by decide +kernel
theorem dX3_rehearse_1 : decode cX3_rehearse 1 = .ok (.iload_n 1, 1) := by decide +kernel
theorem dX3_rehearse_2 : decode cX3_rehearse 2 = .ok (.invokevirtual 138, 3) := by decide +kernel
theorem dX3_rehearse_5 : decode cX3_rehearse 5 = .ok (.aload_n 0, 1) := by decide +kernel
theorem dX3_rehearse_6 : decode cX3_rehearse 6 = .ok (.getfield 23, 3) := by decide +kernel
theorem dX3_rehearse_9 : decode cX3_rehearse 9 = .ok (.iload_n 1, 1) := by decide +kernel
theorem dX3_rehearse_10 : decode cX3_rehearse 10 = .ok (.aaload, 1) := by decide +kernel
theorem dX3_rehearse_11 : decode cX3_rehearse 11 = .ok (.astore_n 2, 1) := by decide +kernel
theorem dX3_rehearse_12 : decode cX3_rehearse 12 = .ok (.aload_n 0, 1) := by decide +kernel
theorem dX3_rehearse_13 : decode cX3_rehearse 13 = .ok (.getfield 11, 3) := by decide +kernel
theorem dX3_rehearse_16 : decode cX3_rehearse 16 = .ok (.aload_n 2, 1) := by decide +kernel
theorem dX3_rehearse_17 : decode cX3_rehearse 17 = .ok (.getfield 151, 3) := by decide +kernel
theorem dX3_rehearse_20 : decode cX3_rehearse 20 = .ok (.aaload, 1) := by decide +kernel
theorem dX3_rehearse_21 : decode cX3_rehearse 21 = .ok (.astore_n 3, 1) := by decide +kernel
theorem dX3_rehearse_22 : decode cX3_rehearse 22 = .ok (.aload_n 2, 1) := by decide +kernel
theorem dX3_rehearse_23 : decode cX3_rehearse 23 = .ok (.getfield 107, 3) := by decide +kernel
theorem dX3_rehearse_26 : decode cX3_rehearse 26 = .ok (.ifCond .ne 10, 3) := by decide +kernel
theorem dX3_rehearse_29 : decode cX3_rehearse 29 = .ok (.aload_n 3, 1) := by decide +kernel
theorem dX3_rehearse_30 : decode cX3_rehearse 30 = .ok (.getfield 167, 3) := by decide +kernel
theorem dX3_rehearse_33 : decode cX3_rehearse 33 = .ok (.ifCond .eq 13, 3) := by decide +kernel
theorem dX3_rehearse_36 : decode cX3_rehearse 36 = .ok (.new 70, 3) := by decide +kernel
theorem dX3_rehearse_39 : decode cX3_rehearse 39 = .ok (.dup, 1) := by decide +kernel
theorem dX3_rehearse_40 : decode cX3_rehearse 40 = .ok (.ldc 170, 2) := by decide +kernel
theorem dX3_rehearse_42 : decode cX3_rehearse 42 = .ok (.invokespecial 74, 3) := by decide +kernel
theorem dX3_rehearse_45 : decode cX3_rehearse 45 = .ok (.athrow, 1) := by decide +kernel
theorem dX3_rehearse_46 : decode cX3_rehearse 46 = .ok (.iconst 4, 1) := by decide +kernel
theorem dX3_rehearse_47 : decode cX3_rehearse 47 = .ok (.aload_n 2, 1) := by decide +kernel
theorem dX3_rehearse_48 : decode cX3_rehearse 48 = .ok (.getfield 172, 3) := by decide +kernel
theorem dX3_rehearse_51 : decode cX3_rehearse 51 = .ok (.iconst 1, 1) := by decide +kernel
theorem dX3_rehearse_52 : decode cX3_rehearse 52 = .ok (.iadd, 1) := by decide +kernel
theorem dX3_rehearse_53 : decode cX3_rehearse 53 = .ok (.invokestatic 175, 3) := by decide +kernel
theorem dX3_rehearse_56 : decode cX3_rehearse 56 = .ok (.istore 4, 2) := by decide +kernel
theorem dX3_rehearse_58 : decode cX3_rehearse 58 = .ok (.iload 4, 2) := by decide +kernel
theorem dX3_rehearse_60 : decode cX3_rehearse 60 = .ok (.aload_n 0, 1) := by decide +kernel
theorem dX3_rehearse_61 : decode cX3_rehearse 61 = .ok (.iload_n 1, 1) := by decide +kernel
theorem dX3_rehearse_62 : decode cX3_rehearse 62 = .ok (.invokevirtual 181, 3) := by decide +kernel
theorem dX3_rehearse_65 : decode cX3_rehearse 65 = .ok (.imul, 1) := by decide +kernel
theorem dX3_rehearse_66 : decode cX3_rehearse 66 = .ok (.iconst 4, 1) := by decide +kernel
theorem dX3_rehearse_67 : decode cX3_rehearse 67 = .ok (.idiv, 1) := by decide +kernel
theorem dX3_rehearse_68 : decode cX3_rehearse 68 = .ok (.istore 5, 2) := by decide +kernel
theorem dX3_rehearse_70 : decode cX3_rehearse 70 = .ok (.aload_n 0, 1) := by decide +kernel
theorem dX3_rehearse_71 : decode cX3_rehearse 71 = .ok (.iload_n 1, 1) := by decide +kernel
theorem dX3_rehearse_72 : decode cX3_rehearse 72 = .ok (.invokevirtual 184, 3) := by decide +kernel
theorem dX3_rehearse_75 : decode cX3_rehearse 75 = .ok (.iload 5, 2) := by decide +kernel
theorem dX3_rehearse_77 : decode cX3_rehearse 77 = .ok (.if_icmp .lt 12, 3) := by decide +kernel
theorem dX3_rehearse_80 : decode cX3_rehearse 80 = .ok (.aload_n 2, 1) := by decide +kernel
theorem dX3_rehearse_81 : decode cX3_rehearse 81 = .ok (.iload 4, 2) := by decide +kernel
theorem dX3_rehearse_83 : decode cX3_rehearse 83 = .ok (.putfield 172, 3) := by decide +kernel
theorem dX3_rehearse_86 : decode cX3_rehearse 86 = .ok (.goto 21, 3) := by decide +kernel
theorem dX3_rehearse_89 : decode cX3_rehearse 89 = .ok (.aload_n 2, 1) := by decide +kernel
theorem dX3_rehearse_90 : decode cX3_rehearse 90 = .ok (.iconst 0, 1) := by decide +kernel
theorem dX3_rehearse_91 : decode cX3_rehearse 91 = .ok (.putfield 172, 3) := by decide +kernel
theorem dX3_rehearse_94 : decode cX3_rehearse 94 = .ok (.aload_n 0, 1) := by decide +kernel
theorem dX3_rehearse_95 : decode cX3_rehearse 95 = .ok (.iload_n 1, 1) := by decide +kernel
theorem dX3_rehearse_96 : decode cX3_rehearse 96 = .ok (.invokevirtual 187, 3) := by decide +kernel
theorem dX3_rehearse_99 : decode cX3_rehearse 99 = .ok (.aload_n 0, 1) := by decide +kernel
theorem dX3_rehearse_100 : decode cX3_rehearse 100 = .ok (.aload_n 2, 1) := by decide +kernel
theorem dX3_rehearse_101 : decode cX3_rehearse 101 = .ok (.getfield 117, 3) := by decide +kernel
theorem dX3_rehearse_104 : decode cX3_rehearse 104 = .ok (.invokevirtual 120, 3) := by decide +kernel
theorem dX3_rehearse_107 : decode cX3_rehearse 107 = .ok (.aload_n 3, 1) := by decide +kernel
theorem dX3_rehearse_108 : decode cX3_rehearse 108 = .ok (.iconst 3, 1) := by decide +kernel
theorem dX3_rehearse_109 : decode cX3_rehearse 109 = .ok (.invokestatic 190, 3) := by decide +kernel
theorem dX3_rehearse_112 : decode cX3_rehearse 112 = .ok (.aload_n 2, 1) := by decide +kernel
theorem dX3_rehearse_113 : decode cX3_rehearse 113 = .ok (.getfield 172, 3) := by decide +kernel
theorem dX3_rehearse_116 : decode cX3_rehearse 116 = .ok (.ireturn, 1) := by decide +kernel
theorem dX3_sign_0 : decode cX3_sign 0 = .ok (.aload_n 0, 1) := by decide +kernel
theorem dX3_sign_1 : decode cX3_sign 1 = .ok (.iload_n 1, 1) := by decide +kernel
theorem dX3_sign_2 : decode cX3_sign 2 = .ok (.invokevirtual 138, 3) := by decide +kernel
theorem dX3_sign_5 : decode cX3_sign 5 = .ok (.iload_n 2, 1) := by decide +kernel
theorem dX3_sign_6 : decode cX3_sign 6 = .ok (.ifCond .lt 8, 3) := by decide +kernel
theorem dX3_sign_9 : decode cX3_sign 9 = .ok (.iload_n 2, 1) := by decide +kernel
theorem dX3_sign_10 : decode cX3_sign 10 = .ok (.iconst 3, 1) := by decide +kernel
theorem dX3_sign_11 : decode cX3_sign 11 = .ok (.if_icmp .lt 13, 3) := by decide +kernel
theorem dX3_sign_14 : decode cX3_sign 14 = .ok (.new 194, 3) := by decide +kernel
theorem dX3_sign_17 : decode cX3_sign 17 = .ok (.dup, 1) := by decide +kernel
theorem dX3_sign_18 : decode cX3_sign 18 = .ok (.ldc 196, 2) := by decide +kernel
theorem dX3_sign_20 : decode cX3_sign 20 = .ok (.invokespecial 198, 3) := by decide +kernel
theorem dX3_sign_23 : decode cX3_sign 23 = .ok (.athrow, 1) := by decide +kernel
theorem dX3_sign_24 : decode cX3_sign 24 = .ok (.aload_n 0, 1) := by decide +kernel
theorem dX3_sign_25 : decode cX3_sign 25 = .ok (.getfield 23, 3) := by decide +kernel
theorem dX3_sign_28 : decode cX3_sign 28 = .ok (.iload_n 1, 1) := by decide +kernel
theorem dX3_sign_29 : decode cX3_sign 29 = .ok (.aaload, 1) := by decide +kernel
theorem dX3_sign_30 : decode cX3_sign 30 = .ok (.astore_n 3, 1) := by decide +kernel
theorem dX3_sign_31 : decode cX3_sign 31 = .ok (.aload_n 3, 1) := by decide +kernel
theorem dX3_sign_32 : decode cX3_sign 32 = .ok (.getfield 172, 3) := by decide +kernel
theorem dX3_sign_35 : decode cX3_sign 35 = .ok (.iconst 4, 1) := by decide +kernel
theorem dX3_sign_36 : decode cX3_sign 36 = .ok (.if_icmp .lt 14, 3) := by decide +kernel
theorem dX3_sign_39 : decode cX3_sign 39 = .ok (.aload_n 3, 1) := by decide +kernel
theorem dX3_sign_40 : decode cX3_sign 40 = .ok (.getfield 158, 3) := by decide +kernel
theorem dX3_sign_43 : decode cX3_sign 43 = .ok (.iload_n 2, 1) := by decide +kernel
theorem dX3_sign_44 : decode cX3_sign 44 = .ok (.invokestatic 199, 3) := by decide +kernel
theorem dX3_sign_47 : decode cX3_sign 47 = .ok (.ifCond .eq 13, 3) := by decide +kernel
theorem dX3_sign_50 : decode cX3_sign 50 = .ok (.new 70, 3) := by decide +kernel
theorem dX3_sign_53 : decode cX3_sign 53 = .ok (.dup, 1) := by decide +kernel
theorem dX3_sign_54 : decode cX3_sign 54 = .ok (.ldc 202, 2) := by decide +kernel
theorem dX3_sign_56 : decode cX3_sign 56 = .ok (.invokespecial 74, 3) := by decide +kernel
theorem dX3_sign_59 : decode cX3_sign 59 = .ok (.athrow, 1) := by decide +kernel
theorem dX3_sign_60 : decode cX3_sign 60 = .ok (.aload_n 3, 1) := by decide +kernel
theorem dX3_sign_61 : decode cX3_sign 61 = .ok (.dup, 1) := by decide +kernel
theorem dX3_sign_62 : decode cX3_sign 62 = .ok (.getfield 158, 3) := by decide +kernel
theorem dX3_sign_65 : decode cX3_sign 65 = .ok (.iconst 1, 1) := by decide +kernel
theorem dX3_sign_66 : decode cX3_sign 66 = .ok (.iload_n 2, 1) := by decide +kernel
theorem dX3_sign_67 : decode cX3_sign 67 = .ok (.ishl, 1) := by decide +kernel
theorem dX3_sign_68 : decode cX3_sign 68 = .ok (.ior, 1) := by decide +kernel
theorem dX3_sign_69 : decode cX3_sign 69 = .ok (.putfield 158, 3) := by decide +kernel
theorem dX3_sign_72 : decode cX3_sign 72 = .ok (.aload_n 3, 1) := by decide +kernel
theorem dX3_sign_73 : decode cX3_sign 73 = .ok (.getfield 158, 3) := by decide +kernel
theorem dX3_sign_76 : decode cX3_sign 76 = .ok (.invokestatic 161, 3) := by decide +kernel
theorem dX3_sign_79 : decode cX3_sign 79 = .ok (.ireturn, 1) := by decide +kernel
theorem dX3_no_0 : decode cX3_no 0 = .ok (.aload_n 0, 1) := by decide +kernel
theorem dX3_no_1 : decode cX3_no 1 = .ok (.iload_n 1, 1) := by decide +kernel
theorem dX3_no_2 : decode cX3_no 2 = .ok (.invokevirtual 86, 3) := by decide +kernel
theorem dX3_no_5 : decode cX3_no 5 = .ok (.aload_n 0, 1) := by decide +kernel
theorem dX3_no_6 : decode cX3_no 6 = .ok (.iload_n 2, 1) := by decide +kernel
theorem dX3_no_7 : decode cX3_no 7 = .ok (.invokevirtual 138, 3) := by decide +kernel
theorem dX3_no_10 : decode cX3_no 10 = .ok (.iload_n 3, 1) := by decide +kernel
theorem dX3_no_11 : decode cX3_no 11 = .ok (.ifCond .ne 24, 3) := by decide +kernel
theorem dX3_no_14 : decode cX3_no 14 = .ok (.aload_n 0, 1) := by decide +kernel
theorem dX3_no_15 : decode cX3_no 15 = .ok (.getfield 23, 3) := by decide +kernel
theorem dX3_no_18 : decode cX3_no 18 = .ok (.iload_n 2, 1) := by decide +kernel
theorem dX3_no_19 : decode cX3_no 19 = .ok (.aaload, 1) := by decide +kernel
theorem dX3_no_20 : decode cX3_no 20 = .ok (.dup, 1) := by decide +kernel
theorem dX3_no_21 : decode cX3_no 21 = .ok (.getfield 204, 3) := by decide +kernel
theorem dX3_no_24 : decode cX3_no 24 = .ok (.iconst 1, 1) := by decide +kernel
theorem dX3_no_25 : decode cX3_no 25 = .ok (.iload_n 1, 1) := by decide +kernel
theorem dX3_no_26 : decode cX3_no 26 = .ok (.ishl, 1) := by decide +kernel
theorem dX3_no_27 : decode cX3_no 27 = .ok (.iconst (-1), 1) := by decide +kernel
theorem dX3_no_28 : decode cX3_no 28 = .ok (.ixor, 1) := by decide +kernel
theorem dX3_no_29 : decode cX3_no 29 = .ok (.iand, 1) := by decide +kernel
theorem dX3_no_30 : decode cX3_no 30 = .ok (.putfield 204, 3) := by decide +kernel
theorem dX3_no_33 : decode cX3_no 33 = .ok (.iconst 0, 1) := by decide +kernel
theorem dX3_no_34 : decode cX3_no 34 = .ok (.ireturn, 1) := by decide +kernel
theorem dX3_no_35 : decode cX3_no 35 = .ok (.aload_n 0, 1) := by decide +kernel
theorem dX3_no_36 : decode cX3_no 36 = .ok (.getfield 23, 3) := by decide +kernel
theorem dX3_no_39 : decode cX3_no 39 = .ok (.iload_n 2, 1) := by decide +kernel
theorem dX3_no_40 : decode cX3_no 40 = .ok (.aaload, 1) := by decide +kernel
theorem dX3_no_41 : decode cX3_no 41 = .ok (.dup, 1) := by decide +kernel
theorem dX3_no_42 : decode cX3_no 42 = .ok (.getfield 204, 3) := by decide +kernel
theorem dX3_no_45 : decode cX3_no 45 = .ok (.iconst 1, 1) := by decide +kernel
theorem dX3_no_46 : decode cX3_no 46 = .ok (.iload_n 1, 1) := by decide +kernel
theorem dX3_no_47 : decode cX3_no 47 = .ok (.ishl, 1) := by decide +kernel
theorem dX3_no_48 : decode cX3_no 48 = .ok (.ior, 1) := by decide +kernel
theorem dX3_no_49 : decode cX3_no 49 = .ok (.putfield 204, 3) := by decide +kernel
theorem dX3_no_52 : decode cX3_no 52 = .ok (.aload_n 0, 1) := by decide +kernel
theorem dX3_no_53 : decode cX3_no 53 = .ok (.getfield 23, 3) := by decide +kernel
theorem dX3_no_56 : decode cX3_no 56 = .ok (.iload_n 2, 1) := by decide +kernel
theorem dX3_no_57 : decode cX3_no 57 = .ok (.aaload, 1) := by decide +kernel
theorem dX3_no_58 : decode cX3_no 58 = .ok (.getfield 107, 3) := by decide +kernel
theorem dX3_no_61 : decode cX3_no 61 = .ok (.istore 4, 2) := by decide +kernel
theorem dX3_no_63 : decode cX3_no 63 = .ok (.aload_n 0, 1) := by decide +kernel
theorem dX3_no_64 : decode cX3_no 64 = .ok (.iload_n 2, 1) := by decide +kernel
theorem dX3_no_65 : decode cX3_no 65 = .ok (.invokevirtual 114, 3) := by decide +kernel
theorem dX3_no_68 : decode cX3_no 68 = .ok (.iload 4, 2) := by decide +kernel
theorem dX3_no_70 : decode cX3_no 70 = .ok (.ireturn, 1) := by decide +kernel
theorem dX3_arm_0 : decode cX3_arm 0 = .ok (.aload_n 0, 1) := by decide +kernel
theorem dX3_arm_1 : decode cX3_arm 1 = .ok (.iload_n 1, 1) := by decide +kernel
theorem dX3_arm_2 : decode cX3_arm 2 = .ok (.invokevirtual 138, 3) := by decide +kernel
theorem dX3_arm_5 : decode cX3_arm 5 = .ok (.aload_n 0, 1) := by decide +kernel
theorem dX3_arm_6 : decode cX3_arm 6 = .ok (.getfield 23, 3) := by decide +kernel
theorem dX3_arm_9 : decode cX3_arm 9 = .ok (.iload_n 1, 1) := by decide +kernel
theorem dX3_arm_10 : decode cX3_arm 10 = .ok (.aaload, 1) := by decide +kernel
theorem dX3_arm_11 : decode cX3_arm 11 = .ok (.getfield 107, 3) := by decide +kernel
theorem dX3_arm_14 : decode cX3_arm 14 = .ok (.ifCond .eq 13, 3) := by decide +kernel
theorem dX3_arm_17 : decode cX3_arm 17 = .ok (.new 70, 3) := by decide +kernel
theorem dX3_arm_20 : decode cX3_arm 20 = .ok (.dup, 1) := by decide +kernel
theorem dX3_arm_21 : decode cX3_arm 21 = .ok (.ldc 207, 2) := by decide +kernel
theorem dX3_arm_23 : decode cX3_arm 23 = .ok (.invokespecial 74, 3) := by decide +kernel
theorem dX3_arm_26 : decode cX3_arm 26 = .ok (.athrow, 1) := by decide +kernel
theorem dX3_arm_27 : decode cX3_arm 27 = .ok (.aload_n 0, 1) := by decide +kernel
theorem dX3_arm_28 : decode cX3_arm 28 = .ok (.iload_n 1, 1) := by decide +kernel
theorem dX3_arm_29 : decode cX3_arm 29 = .ok (.invokevirtual 209, 3) := by decide +kernel
theorem dX3_arm_32 : decode cX3_arm 32 = .ok (.istore_n 2, 1) := by decide +kernel
theorem dX3_arm_33 : decode cX3_arm 33 = .ok (.aload_n 0, 1) := by decide +kernel
theorem dX3_arm_34 : decode cX3_arm 34 = .ok (.getfield 23, 3) := by decide +kernel
theorem dX3_arm_37 : decode cX3_arm 37 = .ok (.iload_n 1, 1) := by decide +kernel
theorem dX3_arm_38 : decode cX3_arm 38 = .ok (.aaload, 1) := by decide +kernel
theorem dX3_arm_39 : decode cX3_arm 39 = .ok (.iload_n 2, 1) := by decide +kernel
theorem dX3_arm_40 : decode cX3_arm 40 = .ok (.ifCond .ne 7, 3) := by decide +kernel
theorem dX3_arm_43 : decode cX3_arm 43 = .ok (.iconst 1, 1) := by decide +kernel
theorem dX3_arm_44 : decode cX3_arm 44 = .ok (.goto 4, 3) := by decide +kernel
theorem dX3_arm_47 : decode cX3_arm 47 = .ok (.iconst 0, 1) := by decide +kernel
theorem dX3_arm_48 : decode cX3_arm 48 = .ok (.putfield 107, 3) := by decide +kernel
theorem dX3_arm_51 : decode cX3_arm 51 = .ok (.iload_n 2, 1) := by decide +kernel
theorem dX3_arm_52 : decode cX3_arm 52 = .ok (.ireturn, 1) := by decide +kernel
theorem dX3_take_0 : decode cX3_take 0 = .ok (.aload_n 0, 1) := by decide +kernel
theorem dX3_take_1 : decode cX3_take 1 = .ok (.iload_n 1, 1) := by decide +kernel
theorem dX3_take_2 : decode cX3_take 2 = .ok (.invokevirtual 138, 3) := by decide +kernel
theorem dX3_take_5 : decode cX3_take 5 = .ok (.aload_n 0, 1) := by decide +kernel
theorem dX3_take_6 : decode cX3_take 6 = .ok (.iload_n 1, 1) := by decide +kernel
theorem dX3_take_7 : decode cX3_take 7 = .ok (.invokevirtual 212, 3) := by decide +kernel
theorem dX3_take_10 : decode cX3_take 10 = .ok (.aload_n 0, 1) := by decide +kernel
theorem dX3_take_11 : decode cX3_take 11 = .ok (.getfield 23, 3) := by decide +kernel
theorem dX3_take_14 : decode cX3_take 14 = .ok (.iload_n 1, 1) := by decide +kernel
theorem dX3_take_15 : decode cX3_take 15 = .ok (.aaload, 1) := by decide +kernel
theorem dX3_take_16 : decode cX3_take 16 = .ok (.astore_n 2, 1) := by decide +kernel
theorem dX3_take_17 : decode cX3_take 17 = .ok (.aload_n 0, 1) := by decide +kernel
theorem dX3_take_18 : decode cX3_take 18 = .ok (.iload_n 1, 1) := by decide +kernel
theorem dX3_take_19 : decode cX3_take 19 = .ok (.invokevirtual 215, 3) := by decide +kernel
theorem dX3_take_22 : decode cX3_take 22 = .ok (.istore_n 3, 1) := by decide +kernel
theorem dX3_take_23 : decode cX3_take 23 = .ok (.aload_n 2, 1) := by decide +kernel
theorem dX3_take_24 : decode cX3_take 24 = .ok (.iconst 0, 1) := by decide +kernel
theorem dX3_take_25 : decode cX3_take 25 = .ok (.putfield 107, 3) := by decide +kernel
theorem dX3_take_28 : decode cX3_take 28 = .ok (.aload_n 2, 1) := by decide +kernel
theorem dX3_take_29 : decode cX3_take 29 = .ok (.iconst 0, 1) := by decide +kernel
theorem dX3_take_30 : decode cX3_take 30 = .ok (.putfield 158, 3) := by decide +kernel
theorem dX3_take_33 : decode cX3_take 33 = .ok (.aload_n 2, 1) := by decide +kernel
theorem dX3_take_34 : decode cX3_take 34 = .ok (.iconst 3, 1) := by decide +kernel
theorem dX3_take_35 : decode cX3_take 35 = .ok (.putfield 172, 3) := by decide +kernel
theorem dX3_take_38 : decode cX3_take 38 = .ok (.aload_n 2, 1) := by decide +kernel
theorem dX3_take_39 : decode cX3_take 39 = .ok (.dup, 1) := by decide +kernel
theorem dX3_take_40 : decode cX3_take 40 = .ok (.getfield 218, 3) := by decide +kernel
theorem dX3_take_43 : decode cX3_take 43 = .ok (.iconst 1, 1) := by decide +kernel
theorem dX3_take_44 : decode cX3_take 44 = .ok (.iadd, 1) := by decide +kernel
theorem dX3_take_45 : decode cX3_take 45 = .ok (.putfield 218, 3) := by decide +kernel
theorem dX3_take_48 : decode cX3_take 48 = .ok (.aload_n 0, 1) := by decide +kernel
theorem dX3_take_49 : decode cX3_take 49 = .ok (.dup, 1) := by decide +kernel
theorem dX3_take_50 : decode cX3_take 50 = .ok (.getfield 57, 3) := by decide +kernel
theorem dX3_take_53 : decode cX3_take 53 = .ok (.iconst 1, 1) := by decide +kernel
theorem dX3_take_54 : decode cX3_take 54 = .ok (.iadd, 1) := by decide +kernel
theorem dX3_take_55 : decode cX3_take 55 = .ok (.putfield 57, 3) := by decide +kernel
theorem dX3_take_58 : decode cX3_take 58 = .ok (.aload_n 0, 1) := by decide +kernel
theorem dX3_take_59 : decode cX3_take 59 = .ok (.dup, 1) := by decide +kernel
theorem dX3_take_60 : decode cX3_take 60 = .ok (.getfield 63, 3) := by decide +kernel
theorem dX3_take_63 : decode cX3_take 63 = .ok (.iload_n 3, 1) := by decide +kernel
theorem dX3_take_64 : decode cX3_take 64 = .ok (.i2l, 1) := by decide +kernel
theorem dX3_take_65 : decode cX3_take 65 = .ok (.ladd, 1) := by decide +kernel
theorem dX3_take_66 : decode cX3_take 66 = .ok (.putfield 63, 3) := by decide +kernel
theorem dX3_take_69 : decode cX3_take 69 = .ok (.iload_n 3, 1) := by decide +kernel
theorem dX3_take_70 : decode cX3_take 70 = .ok (.ifCond .ge 11, 3) := by decide +kernel
theorem dX3_take_73 : decode cX3_take 73 = .ok (.aload_n 0, 1) := by decide +kernel
theorem dX3_take_74 : decode cX3_take 74 = .ok (.aload_n 2, 1) := by decide +kernel
theorem dX3_take_75 : decode cX3_take 75 = .ok (.getfield 151, 3) := by decide +kernel
theorem dX3_take_78 : decode cX3_take 78 = .ok (.invokevirtual 221, 3) := by decide +kernel
theorem dX3_take_81 : decode cX3_take 81 = .ok (.aload_n 0, 1) := by decide +kernel
theorem dX3_take_82 : decode cX3_take 82 = .ok (.iload_n 1, 1) := by decide +kernel
theorem dX3_take_83 : decode cX3_take 83 = .ok (.invokevirtual 224, 3) := by decide +kernel
theorem dX3_take_86 : decode cX3_take 86 = .ok (.aload_n 0, 1) := by decide +kernel
theorem dX3_take_87 : decode cX3_take 87 = .ok (.iload_n 1, 1) := by decide +kernel
theorem dX3_take_88 : decode cX3_take 88 = .ok (.invokevirtual 227, 3) := by decide +kernel
theorem dX3_take_91 : decode cX3_take 91 = .ok (.iload_n 3, 1) := by decide +kernel
theorem dX3_take_92 : decode cX3_take 92 = .ok (.ireturn, 1) := by decide +kernel
theorem dX3_weather_0 : decode cX3_weather 0 = .ok (.iload_n 1, 1) := by decide +kernel
theorem dX3_weather_1 : decode cX3_weather 1 = .ok (.iconst 0, 1) := by decide +kernel
theorem dX3_weather_2 : decode cX3_weather 2 = .ok (.bipush 9, 2) := by decide +kernel
theorem dX3_weather_4 : decode cX3_weather 4 = .ok (.invokestatic 93, 3) := by decide +kernel
theorem dX3_weather_7 : decode cX3_weather 7 = .ok (.aload_n 0, 1) := by decide +kernel
theorem dX3_weather_8 : decode cX3_weather 8 = .ok (.invokevirtual 100, 3) := by decide +kernel
theorem dX3_weather_11 : decode cX3_weather 11 = .ok (.istore_n 3, 1) := by decide +kernel
theorem dX3_weather_12 : decode cX3_weather 12 = .ok (.aload_n 0, 1) := by decide +kernel
theorem dX3_weather_13 : decode cX3_weather 13 = .ok (.iload_n 1, 1) := by decide +kernel
theorem dX3_weather_14 : decode cX3_weather 14 = .ok (.putfield 47, 3) := by decide +kernel
theorem dX3_weather_17 : decode cX3_weather 17 = .ok (.aload_n 0, 1) := by decide +kernel
theorem dX3_weather_18 : decode cX3_weather 18 = .ok (.iload_n 2, 1) := by decide +kernel
theorem dX3_weather_19 : decode cX3_weather 19 = .ok (.putfield 50, 3) := by decide +kernel
theorem dX3_weather_22 : decode cX3_weather 22 = .ok (.iconst 0, 1) := by decide +kernel
theorem dX3_weather_23 : decode cX3_weather 23 = .ok (.istore 4, 2) := by decide +kernel
theorem dX3_weather_25 : decode cX3_weather 25 = .ok (.iload 4, 2) := by decide +kernel
theorem dX3_weather_27 : decode cX3_weather 27 = .ok (.aload_n 0, 1) := by decide +kernel
theorem dX3_weather_28 : decode cX3_weather 28 = .ok (.getfield 34, 3) := by decide +kernel
theorem dX3_weather_31 : decode cX3_weather 31 = .ok (.if_icmp .ge 33, 3) := by decide +kernel
theorem dX3_weather_34 : decode cX3_weather 34 = .ok (.aload_n 0, 1) := by decide +kernel
theorem dX3_weather_35 : decode cX3_weather 35 = .ok (.iload 4, 2) := by decide +kernel
theorem dX3_weather_37 : decode cX3_weather 37 = .ok (.invokevirtual 230, 3) := by decide +kernel
theorem dX3_weather_40 : decode cX3_weather 40 = .ok (.ifCond .ne 12, 3) := by decide +kernel
theorem dX3_weather_43 : decode cX3_weather 43 = .ok (.aload_n 0, 1) := by decide +kernel
theorem dX3_weather_44 : decode cX3_weather 44 = .ok (.iload 4, 2) := by decide +kernel
theorem dX3_weather_46 : decode cX3_weather 46 = .ok (.invokevirtual 234, 3) := by decide +kernel
theorem dX3_weather_49 : decode cX3_weather 49 = .ok (.ifCond .eq 9, 3) := by decide +kernel
theorem dX3_weather_52 : decode cX3_weather 52 = .ok (.aload_n 0, 1) := by decide +kernel
theorem dX3_weather_53 : decode cX3_weather 53 = .ok (.iload 4, 2) := by decide +kernel
theorem dX3_weather_55 : decode cX3_weather 55 = .ok (.invokevirtual 114, 3) := by decide +kernel
theorem dX3_weather_58 : decode cX3_weather 58 = .ok (.iinc 4 1, 3) := by decide +kernel
theorem dX3_weather_61 : decode cX3_weather 61 = .ok (.goto (-36), 3) := by decide +kernel
theorem dX3_weather_64 : decode cX3_weather 64 = .ok (.aload_n 0, 1) := by decide +kernel
theorem dX3_weather_65 : decode cX3_weather 65 = .ok (.invokevirtual 83, 3) := by decide +kernel
theorem dX3_weather_68 : decode cX3_weather 68 = .ok (.iload_n 3, 1) := by decide +kernel
theorem dX3_weather_69 : decode cX3_weather 69 = .ok (.aload_n 0, 1) := by decide +kernel
theorem dX3_weather_70 : decode cX3_weather 70 = .ok (.invokevirtual 100, 3) := by decide +kernel
theorem dX3_weather_73 : decode cX3_weather 73 = .ok (.iconst (-1), 1) := by decide +kernel
theorem dX3_weather_74 : decode cX3_weather 74 = .ok (.ixor, 1) := by decide +kernel
theorem dX3_weather_75 : decode cX3_weather 75 = .ok (.iand, 1) := by decide +kernel
theorem dX3_weather_76 : decode cX3_weather 76 = .ok (.ireturn, 1) := by decide +kernel
theorem dX3_pass_0 : decode cX3_pass 0 = .ok (.iload_n 1, 1) := by decide +kernel
theorem dX3_pass_1 : decode cX3_pass 1 = .ok (.iconst 1, 1) := by decide +kernel
theorem dX3_pass_2 : decode cX3_pass 2 = .ok (.bipush 30, 2) := by decide +kernel
theorem dX3_pass_4 : decode cX3_pass 4 = .ok (.invokestatic 93, 3) := by decide +kernel
theorem dX3_pass_7 : decode cX3_pass 7 = .ok (.aload_n 0, 1) := by decide +kernel
theorem dX3_pass_8 : decode cX3_pass 8 = .ok (.invokevirtual 100, 3) := by decide +kernel
theorem dX3_pass_11 : decode cX3_pass 11 = .ok (.ifCond .eq 13, 3) := by decide +kernel
theorem dX3_pass_14 : decode cX3_pass 14 = .ok (.new 70, 3) := by decide +kernel
theorem dX3_pass_17 : decode cX3_pass 17 = .ok (.dup, 1) := by decide +kernel
theorem dX3_pass_18 : decode cX3_pass 18 = .ok (.ldc 237, 2) := by decide +kernel
theorem dX3_pass_20 : decode cX3_pass 20 = .ok (.invokespecial 74, 3) := by decide +kernel
theorem dX3_pass_23 : decode cX3_pass 23 = .ok (.athrow, 1) := by decide +kernel
theorem dX3_pass_24 : decode cX3_pass 24 = .ok (.iconst 0, 1) := by decide +kernel
theorem dX3_pass_25 : decode cX3_pass 25 = .ok (.istore_n 2, 1) := by decide +kernel
theorem dX3_pass_26 : decode cX3_pass 26 = .ok (.iload_n 2, 1) := by decide +kernel
theorem dX3_pass_27 : decode cX3_pass 27 = .ok (.iload_n 1, 1) := by decide +kernel
theorem dX3_pass_28 : decode cX3_pass 28 = .ok (.if_icmp .ge 13, 3) := by decide +kernel
theorem dX3_pass_31 : decode cX3_pass 31 = .ok (.aload_n 0, 1) := by decide +kernel
theorem dX3_pass_32 : decode cX3_pass 32 = .ok (.invokevirtual 239, 3) := by decide +kernel
theorem dX3_pass_35 : decode cX3_pass 35 = .ok (.iinc 2 1, 3) := by decide +kernel
theorem dX3_pass_38 : decode cX3_pass 38 = .ok (.goto (-12), 3) := by decide +kernel
theorem dX3_pass_41 : decode cX3_pass 41 = .ok (.aload_n 0, 1) := by decide +kernel
theorem dX3_pass_42 : decode cX3_pass 42 = .ok (.getfield 44, 3) := by decide +kernel
theorem dX3_pass_45 : decode cX3_pass 45 = .ok (.ireturn, 1) := by decide +kernel
theorem dX3_ofPerson_0 : decode cX3_ofPerson 0 = .ok (.aload_n 0, 1) := by decide +kernel
theorem dX3_ofPerson_1 : decode cX3_ofPerson 1 = .ok (.iload_n 1, 1) := by decide +kernel
theorem dX3_ofPerson_2 : decode cX3_ofPerson 2 = .ok (.invokevirtual 86, 3) := by decide +kernel
theorem dX3_ofPerson_5 : decode cX3_ofPerson 5 = .ok (.iload_n 2, 1) := by decide +kernel
theorem dX3_ofPerson_6 : decode cX3_ofPerson 6 = .ok (.iconst 0, 1) := by decide +kernel
theorem dX3_ofPerson_7 : decode cX3_ofPerson 7 = .ok (.bipush 11, 2) := by decide +kernel
theorem dX3_ofPerson_9 : decode cX3_ofPerson 9 = .ok (.invokestatic 93, 3) := by decide +kernel
theorem dX3_ofPerson_12 : decode cX3_ofPerson 12 = .ok (.aload_n 0, 1) := by decide +kernel
theorem dX3_ofPerson_13 : decode cX3_ofPerson 13 = .ok (.getfield 11, 3) := by decide +kernel
theorem dX3_ofPerson_16 : decode cX3_ofPerson 16 = .ok (.iload_n 1, 1) := by decide +kernel
theorem dX3_ofPerson_17 : decode cX3_ofPerson 17 = .ok (.aaload, 1) := by decide +kernel
theorem dX3_ofPerson_18 : decode cX3_ofPerson 18 = .ok (.astore_n 3, 1) := by decide +kernel
theorem dX3_ofPerson_19 : decode cX3_ofPerson 19 = .ok (.iload_n 2, 1) := by decide +kernel
theorem dX3_ofPerson_20 : decode cX3_ofPerson 20 = .ok (.tableswitch 98 4 11 #[48, 56, 64, 69, 74, 82, 87, 92], 48) := by decide +kernel
theorem dX3_ofPerson_68 : decode cX3_ofPerson 68 = .ok (.aload_n 3, 1) := by decide +kernel
theorem dX3_ofPerson_69 : decode cX3_ofPerson 69 = .ok (.getfield 77, 3) := by decide +kernel
theorem dX3_ofPerson_72 : decode cX3_ofPerson 72 = .ok (.invokestatic 242, 3) := by decide +kernel
theorem dX3_ofPerson_75 : decode cX3_ofPerson 75 = .ok (.ireturn, 1) := by decide +kernel
theorem dX3_ofPerson_76 : decode cX3_ofPerson 76 = .ok (.aload_n 3, 1) := by decide +kernel
theorem dX3_ofPerson_77 : decode cX3_ofPerson 77 = .ok (.getfield 80, 3) := by decide +kernel
theorem dX3_ofPerson_80 : decode cX3_ofPerson 80 = .ok (.invokestatic 242, 3) := by decide +kernel
theorem dX3_ofPerson_83 : decode cX3_ofPerson 83 = .ok (.ireturn, 1) := by decide +kernel
theorem dX3_ofPerson_84 : decode cX3_ofPerson 84 = .ok (.aload_n 3, 1) := by decide +kernel
theorem dX3_ofPerson_85 : decode cX3_ofPerson 85 = .ok (.getfield 104, 3) := by decide +kernel
theorem dX3_ofPerson_88 : decode cX3_ofPerson 88 = .ok (.ireturn, 1) := by decide +kernel
theorem dX3_ofPerson_89 : decode cX3_ofPerson 89 = .ok (.aload_n 3, 1) := by decide +kernel
theorem dX3_ofPerson_90 : decode cX3_ofPerson 90 = .ok (.getfield 246, 3) := by decide +kernel
theorem dX3_ofPerson_93 : decode cX3_ofPerson 93 = .ok (.ireturn, 1) := by decide +kernel
theorem dX3_ofPerson_94 : decode cX3_ofPerson 94 = .ok (.aload_n 3, 1) := by decide +kernel
theorem dX3_ofPerson_95 : decode cX3_ofPerson 95 = .ok (.getfield 167, 3) := by decide +kernel
theorem dX3_ofPerson_98 : decode cX3_ofPerson 98 = .ok (.invokestatic 242, 3) := by decide +kernel
theorem dX3_ofPerson_101 : decode cX3_ofPerson 101 = .ok (.ireturn, 1) := by decide +kernel
theorem dX3_ofPerson_102 : decode cX3_ofPerson 102 = .ok (.aload_n 3, 1) := by decide +kernel
theorem dX3_ofPerson_103 : decode cX3_ofPerson 103 = .ok (.getfield 249, 3) := by decide +kernel
theorem dX3_ofPerson_106 : decode cX3_ofPerson 106 = .ok (.ireturn, 1) := by decide +kernel
theorem dX3_ofPerson_107 : decode cX3_ofPerson 107 = .ok (.aload_n 3, 1) := by decide +kernel
theorem dX3_ofPerson_108 : decode cX3_ofPerson 108 = .ok (.getfield 252, 3) := by decide +kernel
theorem dX3_ofPerson_111 : decode cX3_ofPerson 111 = .ok (.ireturn, 1) := by decide +kernel
theorem dX3_ofPerson_112 : decode cX3_ofPerson 112 = .ok (.aload_n 0, 1) := by decide +kernel
theorem dX3_ofPerson_113 : decode cX3_ofPerson 113 = .ok (.iload_n 1, 1) := by decide +kernel
theorem dX3_ofPerson_114 : decode cX3_ofPerson 114 = .ok (.invokevirtual 255, 3) := by decide +kernel
theorem dX3_ofPerson_117 : decode cX3_ofPerson 117 = .ok (.ireturn, 1) := by decide +kernel
theorem dX3_ofPerson_118 : decode cX3_ofPerson 118 = .ok (.aload_n 3, 1) := by decide +kernel
theorem dX3_ofPerson_119 : decode cX3_ofPerson 119 = .ok (.getfield 97, 3) := by decide +kernel
theorem dX3_ofPerson_122 : decode cX3_ofPerson 122 = .ok (.iload_n 2, 1) := by decide +kernel
theorem dX3_ofPerson_123 : decode cX3_ofPerson 123 = .ok (.iaload, 1) := by decide +kernel
theorem dX3_ofPerson_124 : decode cX3_ofPerson 124 = .ok (.ireturn, 1) := by decide +kernel
theorem dX3_ofKit_0 : decode cX3_ofKit 0 = .ok (.aload_n 0, 1) := by decide +kernel
theorem dX3_ofKit_1 : decode cX3_ofKit 1 = .ok (.iload_n 1, 1) := by decide +kernel
theorem dX3_ofKit_2 : decode cX3_ofKit 2 = .ok (.invokevirtual 132, 3) := by decide +kernel
theorem dX3_ofKit_5 : decode cX3_ofKit 5 = .ok (.iload_n 2, 1) := by decide +kernel
theorem dX3_ofKit_6 : decode cX3_ofKit 6 = .ok (.iconst 0, 1) := by decide +kernel
theorem dX3_ofKit_7 : decode cX3_ofKit 7 = .ok (.iconst 5, 1) := by decide +kernel
theorem dX3_ofKit_8 : decode cX3_ofKit 8 = .ok (.invokestatic 93, 3) := by decide +kernel
theorem dX3_ofKit_11 : decode cX3_ofKit 11 = .ok (.aload_n 0, 1) := by decide +kernel
theorem dX3_ofKit_12 : decode cX3_ofKit 12 = .ok (.getfield 17, 3) := by decide +kernel
theorem dX3_ofKit_15 : decode cX3_ofKit 15 = .ok (.iload_n 1, 1) := by decide +kernel
theorem dX3_ofKit_16 : decode cX3_ofKit 16 = .ok (.aaload, 1) := by decide +kernel
theorem dX3_ofKit_17 : decode cX3_ofKit 17 = .ok (.astore_n 3, 1) := by decide +kernel
theorem dX3_ofKit_18 : decode cX3_ofKit 18 = .ok (.iload_n 2, 1) := by decide +kernel
theorem dX3_ofKit_19 : decode cX3_ofKit 19 = .ok (.tableswitch 58 0 4 #[33, 38, 43, 48, 53], 33) := by decide +kernel
theorem dX3_ofKit_52 : decode cX3_ofKit 52 = .ok (.aload_n 3, 1) := by decide +kernel
theorem dX3_ofKit_53 : decode cX3_ofKit 53 = .ok (.getfield 125, 3) := by decide +kernel
theorem dX3_ofKit_56 : decode cX3_ofKit 56 = .ok (.ireturn, 1) := by decide +kernel
theorem dX3_ofKit_57 : decode cX3_ofKit 57 = .ok (.aload_n 3, 1) := by decide +kernel
theorem dX3_ofKit_58 : decode cX3_ofKit 58 = .ok (.getfield 126, 3) := by decide +kernel
theorem dX3_ofKit_61 : decode cX3_ofKit 61 = .ok (.ireturn, 1) := by decide +kernel
theorem dX3_ofKit_62 : decode cX3_ofKit 62 = .ok (.aload_n 3, 1) := by decide +kernel
theorem dX3_ofKit_63 : decode cX3_ofKit 63 = .ok (.getfield 129, 3) := by decide +kernel
theorem dX3_ofKit_66 : decode cX3_ofKit 66 = .ok (.ireturn, 1) := by decide +kernel
theorem dX3_ofKit_67 : decode cX3_ofKit 67 = .ok (.aload_n 3, 1) := by decide +kernel
theorem dX3_ofKit_68 : decode cX3_ofKit 68 = .ok (.getfield 135, 3) := by decide +kernel
theorem dX3_ofKit_71 : decode cX3_ofKit 71 = .ok (.ireturn, 1) := by decide +kernel
theorem dX3_ofKit_72 : decode cX3_ofKit 72 = .ok (.aload_n 3, 1) := by decide +kernel
theorem dX3_ofKit_73 : decode cX3_ofKit 73 = .ok (.getfield 141, 3) := by decide +kernel
theorem dX3_ofKit_76 : decode cX3_ofKit 76 = .ok (.ireturn, 1) := by decide +kernel
theorem dX3_ofKit_77 : decode cX3_ofKit 77 = .ok (.aload_n 0, 1) := by decide +kernel
theorem dX3_ofKit_78 : decode cX3_ofKit 78 = .ok (.iload_n 1, 1) := by decide +kernel
theorem dX3_ofKit_79 : decode cX3_ofKit 79 = .ok (.invokevirtual 258, 3) := by decide +kernel
theorem dX3_ofKit_82 : decode cX3_ofKit 82 = .ok (.invokestatic 242, 3) := by decide +kernel
theorem dX3_ofKit_85 : decode cX3_ofKit 85 = .ok (.ireturn, 1) := by decide +kernel
theorem dX3_ofGag_0 : decode cX3_ofGag 0 = .ok (.aload_n 0, 1) := by decide +kernel
theorem dX3_ofGag_1 : decode cX3_ofGag 1 = .ok (.iload_n 1, 1) := by decide +kernel
theorem dX3_ofGag_2 : decode cX3_ofGag 2 = .ok (.invokevirtual 138, 3) := by decide +kernel
theorem dX3_ofGag_5 : decode cX3_ofGag 5 = .ok (.iload_n 2, 1) := by decide +kernel
theorem dX3_ofGag_6 : decode cX3_ofGag 6 = .ok (.iconst 0, 1) := by decide +kernel
theorem dX3_ofGag_7 : decode cX3_ofGag 7 = .ok (.bipush 13, 2) := by decide +kernel
theorem dX3_ofGag_9 : decode cX3_ofGag 9 = .ok (.invokestatic 93, 3) := by decide +kernel
theorem dX3_ofGag_12 : decode cX3_ofGag 12 = .ok (.aload_n 0, 1) := by decide +kernel
theorem dX3_ofGag_13 : decode cX3_ofGag 13 = .ok (.getfield 23, 3) := by decide +kernel
theorem dX3_ofGag_16 : decode cX3_ofGag 16 = .ok (.iload_n 1, 1) := by decide +kernel
theorem dX3_ofGag_17 : decode cX3_ofGag 17 = .ok (.aaload, 1) := by decide +kernel
theorem dX3_ofGag_18 : decode cX3_ofGag 18 = .ok (.astore_n 3, 1) := by decide +kernel
theorem dX3_ofGag_19 : decode cX3_ofGag 19 = .ok (.iload_n 2, 1) := by decide +kernel
theorem dX3_ofGag_20 : decode cX3_ofGag 20 = .ok (.tableswitch 141 0 12 #[68, 73, 78, 83, 88, 94, 100, 106, 112, 117, 122, 127, 135], 68) := by decide +kernel
theorem dX3_ofGag_88 : decode cX3_ofGag 88 = .ok (.aload_n 3, 1) := by decide +kernel
theorem dX3_ofGag_89 : decode cX3_ofGag 89 = .ok (.getfield 117, 3) := by decide +kernel
theorem dX3_ofGag_92 : decode cX3_ofGag 92 = .ok (.ireturn, 1) := by decide +kernel
theorem dX3_ofGag_93 : decode cX3_ofGag 93 = .ok (.aload_n 3, 1) := by decide +kernel
theorem dX3_ofGag_94 : decode cX3_ofGag 94 = .ok (.getfield 151, 3) := by decide +kernel
theorem dX3_ofGag_97 : decode cX3_ofGag 97 = .ok (.ireturn, 1) := by decide +kernel
theorem dX3_ofGag_98 : decode cX3_ofGag 98 = .ok (.aload_n 3, 1) := by decide +kernel
theorem dX3_ofGag_99 : decode cX3_ofGag 99 = .ok (.getfield 154, 3) := by decide +kernel
theorem dX3_ofGag_102 : decode cX3_ofGag 102 = .ok (.ireturn, 1) := by decide +kernel
theorem dX3_ofGag_103 : decode cX3_ofGag 103 = .ok (.aload_n 3, 1) := by decide +kernel
theorem dX3_ofGag_104 : decode cX3_ofGag 104 = .ok (.getfield 155, 3) := by decide +kernel
theorem dX3_ofGag_107 : decode cX3_ofGag 107 = .ok (.ireturn, 1) := by decide +kernel
theorem dX3_ofGag_108 : decode cX3_ofGag 108 = .ok (.aload_n 0, 1) := by decide +kernel
theorem dX3_ofGag_109 : decode cX3_ofGag 109 = .ok (.iload_n 1, 1) := by decide +kernel
theorem dX3_ofGag_110 : decode cX3_ofGag 110 = .ok (.invokevirtual 181, 3) := by decide +kernel
theorem dX3_ofGag_113 : decode cX3_ofGag 113 = .ok (.ireturn, 1) := by decide +kernel
theorem dX3_ofGag_114 : decode cX3_ofGag 114 = .ok (.aload_n 0, 1) := by decide +kernel
theorem dX3_ofGag_115 : decode cX3_ofGag 115 = .ok (.iload_n 1, 1) := by decide +kernel
theorem dX3_ofGag_116 : decode cX3_ofGag 116 = .ok (.invokevirtual 261, 3) := by decide +kernel
theorem dX3_ofGag_119 : decode cX3_ofGag 119 = .ok (.ireturn, 1) := by decide +kernel
theorem dX3_ofGag_120 : decode cX3_ofGag 120 = .ok (.aload_n 0, 1) := by decide +kernel
theorem dX3_ofGag_121 : decode cX3_ofGag 121 = .ok (.iload_n 1, 1) := by decide +kernel
theorem dX3_ofGag_122 : decode cX3_ofGag 122 = .ok (.invokevirtual 264, 3) := by decide +kernel
theorem dX3_ofGag_125 : decode cX3_ofGag 125 = .ok (.ireturn, 1) := by decide +kernel
theorem dX3_ofGag_126 : decode cX3_ofGag 126 = .ok (.aload_n 0, 1) := by decide +kernel
theorem dX3_ofGag_127 : decode cX3_ofGag 127 = .ok (.iload_n 1, 1) := by decide +kernel
theorem dX3_ofGag_128 : decode cX3_ofGag 128 = .ok (.invokevirtual 215, 3) := by decide +kernel
theorem dX3_ofGag_131 : decode cX3_ofGag 131 = .ok (.ireturn, 1) := by decide +kernel
theorem dX3_ofGag_132 : decode cX3_ofGag 132 = .ok (.aload_n 3, 1) := by decide +kernel
theorem dX3_ofGag_133 : decode cX3_ofGag 133 = .ok (.getfield 172, 3) := by decide +kernel
theorem dX3_ofGag_136 : decode cX3_ofGag 136 = .ok (.ireturn, 1) := by decide +kernel
theorem dX3_ofGag_137 : decode cX3_ofGag 137 = .ok (.aload_n 3, 1) := by decide +kernel
theorem dX3_ofGag_138 : decode cX3_ofGag 138 = .ok (.getfield 158, 3) := by decide +kernel
theorem dX3_ofGag_141 : decode cX3_ofGag 141 = .ok (.ireturn, 1) := by decide +kernel
theorem dX3_ofGag_142 : decode cX3_ofGag 142 = .ok (.aload_n 3, 1) := by decide +kernel
theorem dX3_ofGag_143 : decode cX3_ofGag 143 = .ok (.getfield 204, 3) := by decide +kernel
theorem dX3_ofGag_146 : decode cX3_ofGag 146 = .ok (.ireturn, 1) := by decide +kernel
theorem dX3_ofGag_147 : decode cX3_ofGag 147 = .ok (.aload_n 3, 1) := by decide +kernel
theorem dX3_ofGag_148 : decode cX3_ofGag 148 = .ok (.getfield 107, 3) := by decide +kernel
theorem dX3_ofGag_151 : decode cX3_ofGag 151 = .ok (.invokestatic 242, 3) := by decide +kernel
theorem dX3_ofGag_154 : decode cX3_ofGag 154 = .ok (.ireturn, 1) := by decide +kernel
theorem dX3_ofGag_155 : decode cX3_ofGag 155 = .ok (.aload_n 0, 1) := by decide +kernel
theorem dX3_ofGag_156 : decode cX3_ofGag 156 = .ok (.iload_n 1, 1) := by decide +kernel
theorem dX3_ofGag_157 : decode cX3_ofGag 157 = .ok (.invokevirtual 209, 3) := by decide +kernel
theorem dX3_ofGag_160 : decode cX3_ofGag 160 = .ok (.ireturn, 1) := by decide +kernel
theorem dX3_ofGag_161 : decode cX3_ofGag 161 = .ok (.aload_n 3, 1) := by decide +kernel
theorem dX3_ofGag_162 : decode cX3_ofGag 162 = .ok (.getfield 218, 3) := by decide +kernel
theorem dX3_ofGag_165 : decode cX3_ofGag 165 = .ok (.ireturn, 1) := by decide +kernel
theorem dX3_ofKind_0 : decode cX3_ofKind 0 = .ok (.iload_n 1, 1) := by decide +kernel
theorem dX3_ofKind_1 : decode cX3_ofKind 1 = .ok (.invokestatic 90, 3) := by decide +kernel
theorem dX3_ofKind_4 : decode cX3_ofKind 4 = .ok (.iload_n 2, 1) := by decide +kernel
theorem dX3_ofKind_5 : decode cX3_ofKind 5 = .ok (.ifCond .eq 12, 3) := by decide +kernel
theorem dX3_ofKind_8 : decode cX3_ofKind 8 = .ok (.aload_n 0, 1) := by decide +kernel
theorem dX3_ofKind_9 : decode cX3_ofKind 9 = .ok (.getfield 37, 3) := by decide +kernel
theorem dX3_ofKind_12 : decode cX3_ofKind 12 = .ok (.iload_n 1, 1) := by decide +kernel
theorem dX3_ofKind_13 : decode cX3_ofKind 13 = .ok (.iaload, 1) := by decide +kernel
theorem dX3_ofKind_14 : decode cX3_ofKind 14 = .ok (.goto 9, 3) := by decide +kernel
theorem dX3_ofKind_17 : decode cX3_ofKind 17 = .ok (.aload_n 0, 1) := by decide +kernel
theorem dX3_ofKind_18 : decode cX3_ofKind 18 = .ok (.getfield 41, 3) := by decide +kernel
theorem dX3_ofKind_21 : decode cX3_ofKind 21 = .ok (.iload_n 1, 1) := by decide +kernel
theorem dX3_ofKind_22 : decode cX3_ofKind 22 = .ok (.iaload, 1) := by decide +kernel
theorem dX3_ofKind_23 : decode cX3_ofKind 23 = .ok (.ireturn, 1) := by decide +kernel
theorem dX3_many_0 : decode cX3_many 0 = .ok (.iload_n 1, 1) := by decide +kernel
theorem dX3_many_1 : decode cX3_many 1 = .ok (.iconst 0, 1) := by decide +kernel
theorem dX3_many_2 : decode cX3_many 2 = .ok (.bipush 13, 2) := by decide +kernel
theorem dX3_many_4 : decode cX3_many 4 = .ok (.invokestatic 93, 3) := by decide +kernel
theorem dX3_many_7 : decode cX3_many 7 = .ok (.iload_n 1, 1) := by decide +kernel
theorem dX3_many_8 : decode cX3_many 8 = .ok (.tableswitch 136 0 12 #[68, 73, 78, 86, 91, 96, 101, 106, 111, 116, 121, 126, 131], 68) := by decide +kernel
theorem dX3_many_76 : decode cX3_many 76 = .ok (.aload_n 0, 1) := by decide +kernel
theorem dX3_many_77 : decode cX3_many 77 = .ok (.getfield 44, 3) := by decide +kernel
theorem dX3_many_80 : decode cX3_many 80 = .ok (.ireturn, 1) := by decide +kernel
theorem dX3_many_81 : decode cX3_many 81 = .ok (.aload_n 0, 1) := by decide +kernel
theorem dX3_many_82 : decode cX3_many 82 = .ok (.getfield 47, 3) := by decide +kernel
theorem dX3_many_85 : decode cX3_many 85 = .ok (.ireturn, 1) := by decide +kernel
theorem dX3_many_86 : decode cX3_many 86 = .ok (.aload_n 0, 1) := by decide +kernel
theorem dX3_many_87 : decode cX3_many 87 = .ok (.getfield 50, 3) := by decide +kernel
theorem dX3_many_90 : decode cX3_many 90 = .ok (.invokestatic 242, 3) := by decide +kernel
theorem dX3_many_93 : decode cX3_many 93 = .ok (.ireturn, 1) := by decide +kernel
theorem dX3_many_94 : decode cX3_many 94 = .ok (.aload_n 0, 1) := by decide +kernel
theorem dX3_many_95 : decode cX3_many 95 = .ok (.getfield 27, 3) := by decide +kernel
theorem dX3_many_98 : decode cX3_many 98 = .ok (.ireturn, 1) := by decide +kernel
theorem dX3_many_99 : decode cX3_many 99 = .ok (.aload_n 0, 1) := by decide +kernel
theorem dX3_many_100 : decode cX3_many 100 = .ok (.getfield 31, 3) := by decide +kernel
theorem dX3_many_103 : decode cX3_many 103 = .ok (.ireturn, 1) := by decide +kernel
theorem dX3_many_104 : decode cX3_many 104 = .ok (.aload_n 0, 1) := by decide +kernel
theorem dX3_many_105 : decode cX3_many 105 = .ok (.invokevirtual 267, 3) := by decide +kernel
theorem dX3_many_108 : decode cX3_many 108 = .ok (.ireturn, 1) := by decide +kernel
theorem dX3_many_109 : decode cX3_many 109 = .ok (.aload_n 0, 1) := by decide +kernel
theorem dX3_many_110 : decode cX3_many 110 = .ok (.getfield 34, 3) := by decide +kernel
theorem dX3_many_113 : decode cX3_many 113 = .ok (.ireturn, 1) := by decide +kernel
theorem dX3_many_114 : decode cX3_many 114 = .ok (.aload_n 0, 1) := by decide +kernel
theorem dX3_many_115 : decode cX3_many 115 = .ok (.invokevirtual 100, 3) := by decide +kernel
theorem dX3_many_118 : decode cX3_many 118 = .ok (.ireturn, 1) := by decide +kernel
theorem dX3_many_119 : decode cX3_many 119 = .ok (.aload_n 0, 1) := by decide +kernel
theorem dX3_many_120 : decode cX3_many 120 = .ok (.invokevirtual 270, 3) := by decide +kernel
theorem dX3_many_123 : decode cX3_many 123 = .ok (.ireturn, 1) := by decide +kernel
theorem dX3_many_124 : decode cX3_many 124 = .ok (.aload_n 0, 1) := by decide +kernel
theorem dX3_many_125 : decode cX3_many 125 = .ok (.invokevirtual 273, 3) := by decide +kernel
theorem dX3_many_128 : decode cX3_many 128 = .ok (.ireturn, 1) := by decide +kernel
theorem dX3_many_129 : decode cX3_many 129 = .ok (.aload_n 0, 1) := by decide +kernel
theorem dX3_many_130 : decode cX3_many 130 = .ok (.getfield 54, 3) := by decide +kernel
theorem dX3_many_133 : decode cX3_many 133 = .ok (.ireturn, 1) := by decide +kernel
theorem dX3_many_134 : decode cX3_many 134 = .ok (.aload_n 0, 1) := by decide +kernel
theorem dX3_many_135 : decode cX3_many 135 = .ok (.getfield 57, 3) := by decide +kernel
theorem dX3_many_138 : decode cX3_many 138 = .ok (.ireturn, 1) := by decide +kernel
theorem dX3_many_139 : decode cX3_many 139 = .ok (.aload_n 0, 1) := by decide +kernel
theorem dX3_many_140 : decode cX3_many 140 = .ok (.invokevirtual 276, 3) := by decide +kernel
theorem dX3_many_143 : decode cX3_many 143 = .ok (.ireturn, 1) := by decide +kernel
theorem dX3_many_144 : decode cX3_many 144 = .ok (.aload_n 0, 1) := by decide +kernel
theorem dX3_many_145 : decode cX3_many 145 = .ok (.getfield 60, 3) := by decide +kernel
theorem dX3_many_148 : decode cX3_many 148 = .ok (.ireturn, 1) := by decide +kernel
theorem dX3_mostLevel_0 : decode cX3_mostLevel 0 = .ok (.aload_n 0, 1) := by decide +kernel
theorem dX3_mostLevel_1 : decode cX3_mostLevel 1 = .ok (.iload_n 1, 1) := by decide +kernel
theorem dX3_mostLevel_2 : decode cX3_mostLevel 2 = .ok (.invokevirtual 138, 3) := by decide +kernel
theorem dX3_mostLevel_5 : decode cX3_mostLevel 5 = .ok (.aload_n 0, 1) := by decide +kernel
theorem dX3_mostLevel_6 : decode cX3_mostLevel 6 = .ok (.iload_n 1, 1) := by decide +kernel
theorem dX3_mostLevel_7 : decode cX3_mostLevel 7 = .ok (.invokevirtual 184, 3) := by decide +kernel
theorem dX3_mostLevel_10 : decode cX3_mostLevel 10 = .ok (.istore_n 2, 1) := by decide +kernel
theorem dX3_mostLevel_11 : decode cX3_mostLevel 11 = .ok (.bipush 30, 2) := by decide +kernel
theorem dX3_mostLevel_13 : decode cX3_mostLevel 13 = .ok (.istore_n 3, 1) := by decide +kernel
theorem dX3_mostLevel_14 : decode cX3_mostLevel 14 = .ok (.iload_n 3, 1) := by decide +kernel
theorem dX3_mostLevel_15 : decode cX3_mostLevel 15 = .ok (.iconst 1, 1) := by decide +kernel
theorem dX3_mostLevel_16 : decode cX3_mostLevel 16 = .ok (.if_icmp .lt 29, 3) := by decide +kernel
theorem dX3_mostLevel_19 : decode cX3_mostLevel 19 = .ok (.aload_n 0, 1) := by decide +kernel
theorem dX3_mostLevel_20 : decode cX3_mostLevel 20 = .ok (.aload_n 0, 1) := by decide +kernel
theorem dX3_mostLevel_21 : decode cX3_mostLevel 21 = .ok (.getfield 23, 3) := by decide +kernel
theorem dX3_mostLevel_24 : decode cX3_mostLevel 24 = .ok (.iload_n 1, 1) := by decide +kernel
theorem dX3_mostLevel_25 : decode cX3_mostLevel 25 = .ok (.aaload, 1) := by decide +kernel
theorem dX3_mostLevel_26 : decode cX3_mostLevel 26 = .ok (.getfield 117, 3) := by decide +kernel
theorem dX3_mostLevel_29 : decode cX3_mostLevel 29 = .ok (.iload_n 3, 1) := by decide +kernel
theorem dX3_mostLevel_30 : decode cX3_mostLevel 30 = .ok (.invokevirtual 279, 3) := by decide +kernel
theorem dX3_mostLevel_33 : decode cX3_mostLevel 33 = .ok (.iload_n 2, 1) := by decide +kernel
theorem dX3_mostLevel_34 : decode cX3_mostLevel 34 = .ok (.if_icmp .gt 5, 3) := by decide +kernel
theorem dX3_mostLevel_37 : decode cX3_mostLevel 37 = .ok (.iload_n 3, 1) := by decide +kernel
theorem dX3_mostLevel_38 : decode cX3_mostLevel 38 = .ok (.ireturn, 1) := by decide +kernel
theorem dX3_mostLevel_39 : decode cX3_mostLevel 39 = .ok (.iinc 3 (-1), 3) := by decide +kernel
theorem dX3_mostLevel_42 : decode cX3_mostLevel 42 = .ok (.goto (-28), 3) := by decide +kernel
theorem dX3_mostLevel_45 : decode cX3_mostLevel 45 = .ok (.iconst (-1), 1) := by decide +kernel
theorem dX3_mostLevel_46 : decode cX3_mostLevel 46 = .ok (.ireturn, 1) := by decide +kernel
theorem dX3_bestPerformer_0 : decode cX3_bestPerformer 0 = .ok (.aload_n 0, 1) := by decide +kernel
theorem dX3_bestPerformer_1 : decode cX3_bestPerformer 1 = .ok (.iload_n 1, 1) := by decide +kernel
theorem dX3_bestPerformer_2 : decode cX3_bestPerformer 2 = .ok (.invokevirtual 138, 3) := by decide +kernel
theorem dX3_bestPerformer_5 : decode cX3_bestPerformer 5 = .ok (.iconst (-1), 1) := by decide +kernel
theorem dX3_bestPerformer_6 : decode cX3_bestPerformer 6 = .ok (.istore_n 2, 1) := by decide +kernel
theorem dX3_bestPerformer_7 : decode cX3_bestPerformer 7 = .ok (.iconst 0, 1) := by decide +kernel
theorem dX3_bestPerformer_8 : decode cX3_bestPerformer 8 = .ok (.istore_n 3, 1) := by decide +kernel
theorem dX3_bestPerformer_9 : decode cX3_bestPerformer 9 = .ok (.iconst 0, 1) := by decide +kernel
theorem dX3_bestPerformer_10 : decode cX3_bestPerformer 10 = .ok (.istore 4, 2) := by decide +kernel
theorem dX3_bestPerformer_12 : decode cX3_bestPerformer 12 = .ok (.iload 4, 2) := by decide +kernel
theorem dX3_bestPerformer_14 : decode cX3_bestPerformer 14 = .ok (.aload_n 0, 1) := by decide +kernel
theorem dX3_bestPerformer_15 : decode cX3_bestPerformer 15 = .ok (.getfield 27, 3) := by decide +kernel
theorem dX3_bestPerformer_18 : decode cX3_bestPerformer 18 = .ok (.if_icmp .ge 69, 3) := by decide +kernel
theorem dX3_bestPerformer_21 : decode cX3_bestPerformer 21 = .ok (.aload_n 0, 1) := by decide +kernel
theorem dX3_bestPerformer_22 : decode cX3_bestPerformer 22 = .ok (.getfield 11, 3) := by decide +kernel
theorem dX3_bestPerformer_25 : decode cX3_bestPerformer 25 = .ok (.iload 4, 2) := by decide +kernel
theorem dX3_bestPerformer_27 : decode cX3_bestPerformer 27 = .ok (.aaload, 1) := by decide +kernel
theorem dX3_bestPerformer_28 : decode cX3_bestPerformer 28 = .ok (.getfield 167, 3) := by decide +kernel
theorem dX3_bestPerformer_31 : decode cX3_bestPerformer 31 = .ok (.ifCond .ne 50, 3) := by decide +kernel
theorem dX3_bestPerformer_34 : decode cX3_bestPerformer 34 = .ok (.aload_n 0, 1) := by decide +kernel
theorem dX3_bestPerformer_35 : decode cX3_bestPerformer 35 = .ok (.iload 4, 2) := by decide +kernel
theorem dX3_bestPerformer_37 : decode cX3_bestPerformer 37 = .ok (.iload_n 1, 1) := by decide +kernel
theorem dX3_bestPerformer_38 : decode cX3_bestPerformer 38 = .ok (.invokevirtual 282, 3) := by decide +kernel
theorem dX3_bestPerformer_41 : decode cX3_bestPerformer 41 = .ok (.ifCond .eq 6, 3) := by decide +kernel
theorem dX3_bestPerformer_44 : decode cX3_bestPerformer 44 = .ok (.goto 37, 3) := by decide +kernel
theorem dX3_bestPerformer_47 : decode cX3_bestPerformer 47 = .ok (.aload_n 0, 1) := by decide +kernel
theorem dX3_bestPerformer_48 : decode cX3_bestPerformer 48 = .ok (.iload 4, 2) := by decide +kernel
theorem dX3_bestPerformer_50 : decode cX3_bestPerformer 50 = .ok (.aload_n 0, 1) := by decide +kernel
theorem dX3_bestPerformer_51 : decode cX3_bestPerformer 51 = .ok (.getfield 23, 3) := by decide +kernel
theorem dX3_bestPerformer_54 : decode cX3_bestPerformer 54 = .ok (.iload_n 1, 1) := by decide +kernel
theorem dX3_bestPerformer_55 : decode cX3_bestPerformer 55 = .ok (.aaload, 1) := by decide +kernel
theorem dX3_bestPerformer_56 : decode cX3_bestPerformer 56 = .ok (.getfield 117, 3) := by decide +kernel
theorem dX3_bestPerformer_59 : decode cX3_bestPerformer 59 = .ok (.invokevirtual 285, 3) := by decide +kernel
theorem dX3_bestPerformer_62 : decode cX3_bestPerformer 62 = .ok (.istore 5, 2) := by decide +kernel
theorem dX3_bestPerformer_64 : decode cX3_bestPerformer 64 = .ok (.iload_n 2, 1) := by decide +kernel
theorem dX3_bestPerformer_65 : decode cX3_bestPerformer 65 = .ok (.iconst (-1), 1) := by decide +kernel
theorem dX3_bestPerformer_66 : decode cX3_bestPerformer 66 = .ok (.if_icmp .eq 9, 3) := by decide +kernel
theorem dX3_bestPerformer_69 : decode cX3_bestPerformer 69 = .ok (.iload 5, 2) := by decide +kernel
theorem dX3_bestPerformer_71 : decode cX3_bestPerformer 71 = .ok (.iload_n 3, 1) := by decide +kernel
theorem dX3_bestPerformer_72 : decode cX3_bestPerformer 72 = .ok (.if_icmp .le 9, 3) := by decide +kernel
theorem dX3_bestPerformer_75 : decode cX3_bestPerformer 75 = .ok (.iload 4, 2) := by decide +kernel
theorem dX3_bestPerformer_77 : decode cX3_bestPerformer 77 = .ok (.istore_n 2, 1) := by decide +kernel
theorem dX3_bestPerformer_78 : decode cX3_bestPerformer 78 = .ok (.iload 5, 2) := by decide +kernel
theorem dX3_bestPerformer_80 : decode cX3_bestPerformer 80 = .ok (.istore_n 3, 1) := by decide +kernel
theorem dX3_bestPerformer_81 : decode cX3_bestPerformer 81 = .ok (.iinc 4 1, 3) := by decide +kernel
theorem dX3_bestPerformer_84 : decode cX3_bestPerformer 84 = .ok (.goto (-72), 3) := by decide +kernel
theorem dX3_bestPerformer_87 : decode cX3_bestPerformer 87 = .ok (.iload_n 2, 1) := by decide +kernel
theorem dX3_bestPerformer_88 : decode cX3_bestPerformer 88 = .ok (.ireturn, 1) := by decide +kernel
theorem dX3_needs_0 : decode cX3_needs 0 = .ok (.aload_n 0, 1) := by decide +kernel
theorem dX3_needs_1 : decode cX3_needs 1 = .ok (.iload_n 1, 1) := by decide +kernel
theorem dX3_needs_2 : decode cX3_needs 2 = .ok (.invokevirtual 138, 3) := by decide +kernel
theorem dX3_needs_5 : decode cX3_needs 5 = .ok (.aload_n 0, 1) := by decide +kernel
theorem dX3_needs_6 : decode cX3_needs 6 = .ok (.iload_n 1, 1) := by decide +kernel
theorem dX3_needs_7 : decode cX3_needs 7 = .ok (.invokevirtual 215, 3) := by decide +kernel
theorem dX3_needs_10 : decode cX3_needs 10 = .ok (.istore_n 2, 1) := by decide +kernel
theorem dX3_needs_11 : decode cX3_needs 11 = .ok (.iconst 0, 1) := by decide +kernel
theorem dX3_needs_12 : decode cX3_needs 12 = .ok (.istore_n 3, 1) := by decide +kernel
theorem dX3_needs_13 : decode cX3_needs 13 = .ok (.iconst 0, 1) := by decide +kernel
theorem dX3_needs_14 : decode cX3_needs 14 = .ok (.istore 4, 2) := by decide +kernel
theorem dX3_needs_16 : decode cX3_needs 16 = .ok (.iload 4, 2) := by decide +kernel
theorem dX3_needs_18 : decode cX3_needs 18 = .ok (.aload_n 0, 1) := by decide +kernel
theorem dX3_needs_19 : decode cX3_needs 19 = .ok (.getfield 31, 3) := by decide +kernel
theorem dX3_needs_22 : decode cX3_needs 22 = .ok (.if_icmp .ge 57, 3) := by decide +kernel
theorem dX3_needs_25 : decode cX3_needs 25 = .ok (.iload_n 2, 1) := by decide +kernel
theorem dX3_needs_26 : decode cX3_needs 26 = .ok (.ifCond .ge 53, 3) := by decide +kernel
theorem dX3_needs_29 : decode cX3_needs 29 = .ok (.aload_n 0, 1) := by decide +kernel
theorem dX3_needs_30 : decode cX3_needs 30 = .ok (.aload_n 0, 1) := by decide +kernel
theorem dX3_needs_31 : decode cX3_needs 31 = .ok (.getfield 23, 3) := by decide +kernel
theorem dX3_needs_34 : decode cX3_needs 34 = .ok (.iload_n 1, 1) := by decide +kernel
theorem dX3_needs_35 : decode cX3_needs 35 = .ok (.aaload, 1) := by decide +kernel
theorem dX3_needs_36 : decode cX3_needs 36 = .ok (.getfield 117, 3) := by decide +kernel
theorem dX3_needs_39 : decode cX3_needs 39 = .ok (.iload_n 3, 1) := by decide +kernel
theorem dX3_needs_40 : decode cX3_needs 40 = .ok (.invokevirtual 288, 3) := by decide +kernel
theorem dX3_needs_43 : decode cX3_needs 43 = .ok (.istore 5, 2) := by decide +kernel
theorem dX3_needs_45 : decode cX3_needs 45 = .ok (.iload 5, 2) := by decide +kernel
theorem dX3_needs_47 : decode cX3_needs 47 = .ok (.iconst (-1), 1) := by decide +kernel
theorem dX3_needs_48 : decode cX3_needs 48 = .ok (.if_icmp .ne 5, 3) := by decide +kernel
theorem dX3_needs_51 : decode cX3_needs 51 = .ok (.iconst 0, 1) := by decide +kernel
theorem dX3_needs_52 : decode cX3_needs 52 = .ok (.ireturn, 1) := by decide +kernel
theorem dX3_needs_53 : decode cX3_needs 53 = .ok (.iload_n 3, 1) := by decide +kernel
theorem dX3_needs_54 : decode cX3_needs 54 = .ok (.iconst 1, 1) := by decide +kernel
theorem dX3_needs_55 : decode cX3_needs 55 = .ok (.iload 5, 2) := by decide +kernel
theorem dX3_needs_57 : decode cX3_needs 57 = .ok (.ishl, 1) := by decide +kernel
theorem dX3_needs_58 : decode cX3_needs 58 = .ok (.ior, 1) := by decide +kernel
theorem dX3_needs_59 : decode cX3_needs 59 = .ok (.istore_n 3, 1) := by decide +kernel
theorem dX3_needs_60 : decode cX3_needs 60 = .ok (.iload_n 2, 1) := by decide +kernel
theorem dX3_needs_61 : decode cX3_needs 61 = .ok (.aload_n 0, 1) := by decide +kernel
theorem dX3_needs_62 : decode cX3_needs 62 = .ok (.getfield 17, 3) := by decide +kernel
theorem dX3_needs_65 : decode cX3_needs 65 = .ok (.iload 5, 2) := by decide +kernel
theorem dX3_needs_67 : decode cX3_needs 67 = .ok (.aaload, 1) := by decide +kernel
theorem dX3_needs_68 : decode cX3_needs 68 = .ok (.getfield 126, 3) := by decide +kernel
theorem dX3_needs_71 : decode cX3_needs 71 = .ok (.iadd, 1) := by decide +kernel
theorem dX3_needs_72 : decode cX3_needs 72 = .ok (.istore_n 2, 1) := by decide +kernel
theorem dX3_needs_73 : decode cX3_needs 73 = .ok (.iinc 4 1, 3) := by decide +kernel
theorem dX3_needs_76 : decode cX3_needs 76 = .ok (.goto (-60), 3) := by decide +kernel
theorem dX3_needs_79 : decode cX3_needs 79 = .ok (.iload_n 2, 1) := by decide +kernel
theorem dX3_needs_80 : decode cX3_needs 80 = .ok (.ifCond .ge 7, 3) := by decide +kernel
theorem dX3_needs_83 : decode cX3_needs 83 = .ok (.iconst 0, 1) := by decide +kernel
theorem dX3_needs_84 : decode cX3_needs 84 = .ok (.goto 4, 3) := by decide +kernel
theorem dX3_needs_87 : decode cX3_needs 87 = .ok (.iload_n 3, 1) := by decide +kernel
theorem dX3_needs_88 : decode cX3_needs 88 = .ok (.ireturn, 1) := by decide +kernel
theorem dX3_safeFrom_0 : decode cX3_safeFrom 0 = .ok (.aload_n 0, 1) := by decide +kernel
theorem dX3_safeFrom_1 : decode cX3_safeFrom 1 = .ok (.iload_n 1, 1) := by decide +kernel
theorem dX3_safeFrom_2 : decode cX3_safeFrom 2 = .ok (.invokevirtual 138, 3) := by decide +kernel
theorem dX3_safeFrom_5 : decode cX3_safeFrom 5 = .ok (.aload_n 0, 1) := by decide +kernel
theorem dX3_safeFrom_6 : decode cX3_safeFrom 6 = .ok (.getfield 23, 3) := by decide +kernel
theorem dX3_safeFrom_9 : decode cX3_safeFrom 9 = .ok (.iload_n 1, 1) := by decide +kernel
theorem dX3_safeFrom_10 : decode cX3_safeFrom 10 = .ok (.aaload, 1) := by decide +kernel
theorem dX3_safeFrom_11 : decode cX3_safeFrom 11 = .ok (.getfield 154, 3) := by decide +kernel
theorem dX3_safeFrom_14 : decode cX3_safeFrom 14 = .ok (.istore_n 2, 1) := by decide +kernel
theorem dX3_safeFrom_15 : decode cX3_safeFrom 15 = .ok (.aload_n 0, 1) := by decide +kernel
theorem dX3_safeFrom_16 : decode cX3_safeFrom 16 = .ok (.iload_n 1, 1) := by decide +kernel
theorem dX3_safeFrom_17 : decode cX3_safeFrom 17 = .ok (.invokevirtual 261, 3) := by decide +kernel
theorem dX3_safeFrom_20 : decode cX3_safeFrom 20 = .ok (.iconst 1, 1) := by decide +kernel
theorem dX3_safeFrom_21 : decode cX3_safeFrom 21 = .ok (.iadd, 1) := by decide +kernel
theorem dX3_safeFrom_22 : decode cX3_safeFrom 22 = .ok (.istore_n 3, 1) := by decide +kernel
theorem dX3_safeFrom_23 : decode cX3_safeFrom 23 = .ok (.iload_n 3, 1) := by decide +kernel
theorem dX3_safeFrom_24 : decode cX3_safeFrom 24 = .ok (.bipush 99, 2) := by decide +kernel
theorem dX3_safeFrom_26 : decode cX3_safeFrom 26 = .ok (.if_icmp .gt 31, 3) := by decide +kernel
theorem dX3_safeFrom_29 : decode cX3_safeFrom 29 = .ok (.aload_n 0, 1) := by decide +kernel
theorem dX3_safeFrom_30 : decode cX3_safeFrom 30 = .ok (.iload_n 2, 1) := by decide +kernel
theorem dX3_safeFrom_31 : decode cX3_safeFrom 31 = .ok (.iload_n 3, 1) := by decide +kernel
theorem dX3_safeFrom_32 : decode cX3_safeFrom 32 = .ok (.isub, 1) := by decide +kernel
theorem dX3_safeFrom_33 : decode cX3_safeFrom 33 = .ok (.invokevirtual 291, 3) := by decide +kernel
theorem dX3_safeFrom_36 : decode cX3_safeFrom 36 = .ok (.ifCond .ne 13, 3) := by decide +kernel
theorem dX3_safeFrom_39 : decode cX3_safeFrom 39 = .ok (.aload_n 0, 1) := by decide +kernel
theorem dX3_safeFrom_40 : decode cX3_safeFrom 40 = .ok (.iload_n 2, 1) := by decide +kernel
theorem dX3_safeFrom_41 : decode cX3_safeFrom 41 = .ok (.iload_n 3, 1) := by decide +kernel
theorem dX3_safeFrom_42 : decode cX3_safeFrom 42 = .ok (.iadd, 1) := by decide +kernel
theorem dX3_safeFrom_43 : decode cX3_safeFrom 43 = .ok (.invokevirtual 291, 3) := by decide +kernel
theorem dX3_safeFrom_46 : decode cX3_safeFrom 46 = .ok (.ifCond .eq 5, 3) := by decide +kernel
theorem dX3_safeFrom_49 : decode cX3_safeFrom 49 = .ok (.iload_n 3, 1) := by decide +kernel
theorem dX3_safeFrom_50 : decode cX3_safeFrom 50 = .ok (.ireturn, 1) := by decide +kernel
theorem dX3_safeFrom_51 : decode cX3_safeFrom 51 = .ok (.iinc 3 1, 3) := by decide +kernel
theorem dX3_safeFrom_54 : decode cX3_safeFrom 54 = .ok (.goto (-31), 3) := by decide +kernel
theorem dX3_safeFrom_57 : decode cX3_safeFrom 57 = .ok (.iconst (-1), 1) := by decide +kernel
theorem dX3_safeFrom_58 : decode cX3_safeFrom 58 = .ok (.ireturn, 1) := by decide +kernel
theorem dX3_digest_0 : decode cX3_digest 0 = .ok (.ldc2_w 294, 3) := by decide +kernel
theorem dX3_digest_3 : decode cX3_digest 3 = .ok (.lstore_n 1, 1) := by decide +kernel
theorem dX3_digest_4 : decode cX3_digest 4 = .ok (.iconst 0, 1) := by decide +kernel
theorem dX3_digest_5 : decode cX3_digest 5 = .ok (.istore_n 3, 1) := by decide +kernel
theorem dX3_digest_6 : decode cX3_digest 6 = .ok (.iload_n 3, 1) := by decide +kernel
theorem dX3_digest_7 : decode cX3_digest 7 = .ok (.bipush 13, 2) := by decide +kernel
theorem dX3_digest_9 : decode cX3_digest 9 = .ok (.if_icmp .gt 19, 3) := by decide +kernel
theorem dX3_digest_12 : decode cX3_digest 12 = .ok (.lload_n 1, 1) := by decide +kernel
theorem dX3_digest_13 : decode cX3_digest 13 = .ok (.aload_n 0, 1) := by decide +kernel
theorem dX3_digest_14 : decode cX3_digest 14 = .ok (.iload_n 3, 1) := by decide +kernel
theorem dX3_digest_15 : decode cX3_digest 15 = .ok (.invokevirtual 296, 3) := by decide +kernel
theorem dX3_digest_18 : decode cX3_digest 18 = .ok (.invokestatic 299, 3) := by decide +kernel
theorem dX3_digest_21 : decode cX3_digest 21 = .ok (.lstore_n 1, 1) := by decide +kernel
theorem dX3_digest_22 : decode cX3_digest 22 = .ok (.iinc 3 1, 3) := by decide +kernel
theorem dX3_digest_25 : decode cX3_digest 25 = .ok (.goto (-19), 3) := by decide +kernel
theorem dX3_digest_28 : decode cX3_digest 28 = .ok (.iconst 0, 1) := by decide +kernel
theorem dX3_digest_29 : decode cX3_digest 29 = .ok (.istore_n 3, 1) := by decide +kernel
theorem dX3_digest_30 : decode cX3_digest 30 = .ok (.iload_n 3, 1) := by decide +kernel
theorem dX3_digest_31 : decode cX3_digest 31 = .ok (.aload_n 0, 1) := by decide +kernel
theorem dX3_digest_32 : decode cX3_digest 32 = .ok (.getfield 27, 3) := by decide +kernel
theorem dX3_digest_35 : decode cX3_digest 35 = .ok (.if_icmp .ge 37, 3) := by decide +kernel
theorem dX3_digest_38 : decode cX3_digest 38 = .ok (.iconst 0, 1) := by decide +kernel
theorem dX3_digest_39 : decode cX3_digest 39 = .ok (.istore 4, 2) := by decide +kernel
theorem dX3_digest_41 : decode cX3_digest 41 = .ok (.iload 4, 2) := by decide +kernel
theorem dX3_digest_43 : decode cX3_digest 43 = .ok (.bipush 11, 2) := by decide +kernel
theorem dX3_digest_45 : decode cX3_digest 45 = .ok (.if_icmp .gt 21, 3) := by decide +kernel
theorem dX3_digest_48 : decode cX3_digest 48 = .ok (.lload_n 1, 1) := by decide +kernel
theorem dX3_digest_49 : decode cX3_digest 49 = .ok (.aload_n 0, 1) := by decide +kernel
theorem dX3_digest_50 : decode cX3_digest 50 = .ok (.iload_n 3, 1) := by decide +kernel
theorem dX3_digest_51 : decode cX3_digest 51 = .ok (.iload 4, 2) := by decide +kernel
theorem dX3_digest_53 : decode cX3_digest 53 = .ok (.invokevirtual 303, 3) := by decide +kernel
theorem dX3_digest_56 : decode cX3_digest 56 = .ok (.invokestatic 299, 3) := by decide +kernel
theorem dX3_digest_59 : decode cX3_digest 59 = .ok (.lstore_n 1, 1) := by decide +kernel
theorem dX3_digest_60 : decode cX3_digest 60 = .ok (.iinc 4 1, 3) := by decide +kernel
theorem dX3_digest_63 : decode cX3_digest 63 = .ok (.goto (-22), 3) := by decide +kernel
theorem dX3_digest_66 : decode cX3_digest 66 = .ok (.iinc 3 1, 3) := by decide +kernel
theorem dX3_digest_69 : decode cX3_digest 69 = .ok (.goto (-39), 3) := by decide +kernel
theorem dX3_digest_72 : decode cX3_digest 72 = .ok (.iconst 0, 1) := by decide +kernel
theorem dX3_digest_73 : decode cX3_digest 73 = .ok (.istore_n 3, 1) := by decide +kernel
theorem dX3_digest_74 : decode cX3_digest 74 = .ok (.iload_n 3, 1) := by decide +kernel
theorem dX3_digest_75 : decode cX3_digest 75 = .ok (.aload_n 0, 1) := by decide +kernel
theorem dX3_digest_76 : decode cX3_digest 76 = .ok (.getfield 31, 3) := by decide +kernel
theorem dX3_digest_79 : decode cX3_digest 79 = .ok (.if_icmp .ge 36, 3) := by decide +kernel
theorem dX3_digest_82 : decode cX3_digest 82 = .ok (.iconst 0, 1) := by decide +kernel
theorem dX3_digest_83 : decode cX3_digest 83 = .ok (.istore 4, 2) := by decide +kernel
theorem dX3_digest_85 : decode cX3_digest 85 = .ok (.iload 4, 2) := by decide +kernel
theorem dX3_digest_87 : decode cX3_digest 87 = .ok (.iconst 5, 1) := by decide +kernel
theorem dX3_digest_88 : decode cX3_digest 88 = .ok (.if_icmp .gt 21, 3) := by decide +kernel
theorem dX3_digest_91 : decode cX3_digest 91 = .ok (.lload_n 1, 1) := by decide +kernel
theorem dX3_digest_92 : decode cX3_digest 92 = .ok (.aload_n 0, 1) := by decide +kernel
theorem dX3_digest_93 : decode cX3_digest 93 = .ok (.iload_n 3, 1) := by decide +kernel
theorem dX3_digest_94 : decode cX3_digest 94 = .ok (.iload 4, 2) := by decide +kernel
theorem dX3_digest_96 : decode cX3_digest 96 = .ok (.invokevirtual 306, 3) := by decide +kernel
theorem dX3_digest_99 : decode cX3_digest 99 = .ok (.invokestatic 299, 3) := by decide +kernel
theorem dX3_digest_102 : decode cX3_digest 102 = .ok (.lstore_n 1, 1) := by decide +kernel
theorem dX3_digest_103 : decode cX3_digest 103 = .ok (.iinc 4 1, 3) := by decide +kernel
theorem dX3_digest_106 : decode cX3_digest 106 = .ok (.goto (-21), 3) := by decide +kernel
theorem dX3_digest_109 : decode cX3_digest 109 = .ok (.iinc 3 1, 3) := by decide +kernel
theorem dX3_digest_112 : decode cX3_digest 112 = .ok (.goto (-38), 3) := by decide +kernel
theorem dX3_digest_115 : decode cX3_digest 115 = .ok (.iconst 0, 1) := by decide +kernel
theorem dX3_digest_116 : decode cX3_digest 116 = .ok (.istore_n 3, 1) := by decide +kernel
theorem dX3_digest_117 : decode cX3_digest 117 = .ok (.iload_n 3, 1) := by decide +kernel
theorem dX3_digest_118 : decode cX3_digest 118 = .ok (.aload_n 0, 1) := by decide +kernel
theorem dX3_digest_119 : decode cX3_digest 119 = .ok (.getfield 34, 3) := by decide +kernel
theorem dX3_digest_122 : decode cX3_digest 122 = .ok (.if_icmp .ge 73, 3) := by decide +kernel
theorem dX3_digest_125 : decode cX3_digest 125 = .ok (.iconst 0, 1) := by decide +kernel
theorem dX3_digest_126 : decode cX3_digest 126 = .ok (.istore 4, 2) := by decide +kernel
theorem dX3_digest_128 : decode cX3_digest 128 = .ok (.iload 4, 2) := by decide +kernel
theorem dX3_digest_130 : decode cX3_digest 130 = .ok (.bipush 13, 2) := by decide +kernel
theorem dX3_digest_132 : decode cX3_digest 132 = .ok (.if_icmp .gt 21, 3) := by decide +kernel
theorem dX3_digest_135 : decode cX3_digest 135 = .ok (.lload_n 1, 1) := by decide +kernel
theorem dX3_digest_136 : decode cX3_digest 136 = .ok (.aload_n 0, 1) := by decide +kernel
theorem dX3_digest_137 : decode cX3_digest 137 = .ok (.iload_n 3, 1) := by decide +kernel
theorem dX3_digest_138 : decode cX3_digest 138 = .ok (.iload 4, 2) := by decide +kernel
theorem dX3_digest_140 : decode cX3_digest 140 = .ok (.invokevirtual 309, 3) := by decide +kernel
theorem dX3_digest_143 : decode cX3_digest 143 = .ok (.invokestatic 299, 3) := by decide +kernel
theorem dX3_digest_146 : decode cX3_digest 146 = .ok (.lstore_n 1, 1) := by decide +kernel
theorem dX3_digest_147 : decode cX3_digest 147 = .ok (.iinc 4 1, 3) := by decide +kernel
theorem dX3_digest_150 : decode cX3_digest 150 = .ok (.goto (-22), 3) := by decide +kernel
theorem dX3_digest_153 : decode cX3_digest 153 = .ok (.lload_n 1, 1) := by decide +kernel
theorem dX3_digest_154 : decode cX3_digest 154 = .ok (.aload_n 0, 1) := by decide +kernel
theorem dX3_digest_155 : decode cX3_digest 155 = .ok (.iload_n 3, 1) := by decide +kernel
theorem dX3_digest_156 : decode cX3_digest 156 = .ok (.invokevirtual 312, 3) := by decide +kernel
theorem dX3_digest_159 : decode cX3_digest 159 = .ok (.invokestatic 299, 3) := by decide +kernel
theorem dX3_digest_162 : decode cX3_digest 162 = .ok (.aload_n 0, 1) := by decide +kernel
theorem dX3_digest_163 : decode cX3_digest 163 = .ok (.iload_n 3, 1) := by decide +kernel
theorem dX3_digest_164 : decode cX3_digest 164 = .ok (.invokevirtual 315, 3) := by decide +kernel
theorem dX3_digest_167 : decode cX3_digest 167 = .ok (.invokestatic 299, 3) := by decide +kernel
theorem dX3_digest_170 : decode cX3_digest 170 = .ok (.lstore_n 1, 1) := by decide +kernel
theorem dX3_digest_171 : decode cX3_digest 171 = .ok (.lload_n 1, 1) := by decide +kernel
theorem dX3_digest_172 : decode cX3_digest 172 = .ok (.aload_n 0, 1) := by decide +kernel
theorem dX3_digest_173 : decode cX3_digest 173 = .ok (.iload_n 3, 1) := by decide +kernel
theorem dX3_digest_174 : decode cX3_digest 174 = .ok (.invokevirtual 318, 3) := by decide +kernel
theorem dX3_digest_177 : decode cX3_digest 177 = .ok (.invokestatic 299, 3) := by decide +kernel
theorem dX3_digest_180 : decode cX3_digest 180 = .ok (.aload_n 0, 1) := by decide +kernel
theorem dX3_digest_181 : decode cX3_digest 181 = .ok (.iload_n 3, 1) := by decide +kernel
theorem dX3_digest_182 : decode cX3_digest 182 = .ok (.invokevirtual 321, 3) := by decide +kernel
theorem dX3_digest_185 : decode cX3_digest 185 = .ok (.invokestatic 299, 3) := by decide +kernel
theorem dX3_digest_188 : decode cX3_digest 188 = .ok (.lstore_n 1, 1) := by decide +kernel
theorem dX3_digest_189 : decode cX3_digest 189 = .ok (.iinc 3 1, 3) := by decide +kernel
theorem dX3_digest_192 : decode cX3_digest 192 = .ok (.goto (-75), 3) := by decide +kernel
theorem dX3_digest_195 : decode cX3_digest 195 = .ok (.iconst 0, 1) := by decide +kernel
theorem dX3_digest_196 : decode cX3_digest 196 = .ok (.istore_n 3, 1) := by decide +kernel
theorem dX3_digest_197 : decode cX3_digest 197 = .ok (.iload_n 3, 1) := by decide +kernel
theorem dX3_digest_198 : decode cX3_digest 198 = .ok (.iconst 4, 1) := by decide +kernel
theorem dX3_digest_199 : decode cX3_digest 199 = .ok (.if_icmp .ge 29, 3) := by decide +kernel
theorem dX3_digest_202 : decode cX3_digest 202 = .ok (.lload_n 1, 1) := by decide +kernel
theorem dX3_digest_203 : decode cX3_digest 203 = .ok (.aload_n 0, 1) := by decide +kernel
theorem dX3_digest_204 : decode cX3_digest 204 = .ok (.iload_n 3, 1) := by decide +kernel
theorem dX3_digest_205 : decode cX3_digest 205 = .ok (.iconst 1, 1) := by decide +kernel
theorem dX3_digest_206 : decode cX3_digest 206 = .ok (.invokevirtual 324, 3) := by decide +kernel
theorem dX3_digest_209 : decode cX3_digest 209 = .ok (.invokestatic 299, 3) := by decide +kernel
theorem dX3_digest_212 : decode cX3_digest 212 = .ok (.aload_n 0, 1) := by decide +kernel
theorem dX3_digest_213 : decode cX3_digest 213 = .ok (.iload_n 3, 1) := by decide +kernel
theorem dX3_digest_214 : decode cX3_digest 214 = .ok (.iconst 0, 1) := by decide +kernel
theorem dX3_digest_215 : decode cX3_digest 215 = .ok (.invokevirtual 324, 3) := by decide +kernel
theorem dX3_digest_218 : decode cX3_digest 218 = .ok (.invokestatic 299, 3) := by decide +kernel
theorem dX3_digest_221 : decode cX3_digest 221 = .ok (.lstore_n 1, 1) := by decide +kernel
theorem dX3_digest_222 : decode cX3_digest 222 = .ok (.iinc 3 1, 3) := by decide +kernel
theorem dX3_digest_225 : decode cX3_digest 225 = .ok (.goto (-28), 3) := by decide +kernel
theorem dX3_digest_228 : decode cX3_digest 228 = .ok (.lload_n 1, 1) := by decide +kernel
theorem dX3_digest_229 : decode cX3_digest 229 = .ok (.lreturn, 1) := by decide +kernel
theorem dX3_mixed_0 : decode cX3_mixed 0 = .ok (.lload_n 0, 1) := by decide +kernel
theorem dX3_mixed_1 : decode cX3_mixed 1 = .ok (.ldc2_w 328, 3) := by decide +kernel
theorem dX3_mixed_4 : decode cX3_mixed 4 = .ok (.lmul, 1) := by decide +kernel
theorem dX3_mixed_5 : decode cX3_mixed 5 = .ok (.iload_n 2, 1) := by decide +kernel
theorem dX3_mixed_6 : decode cX3_mixed 6 = .ok (.i2l, 1) := by decide +kernel
theorem dX3_mixed_7 : decode cX3_mixed 7 = .ok (.ladd, 1) := by decide +kernel
theorem dX3_mixed_8 : decode cX3_mixed 8 = .ok (.lreturn, 1) := by decide +kernel
theorem dX3_requirePerson_0 : decode cX3_requirePerson 0 = .ok (.iload_n 1, 1) := by decide +kernel
theorem dX3_requirePerson_1 : decode cX3_requirePerson 1 = .ok (.ifCond .lt 11, 3) := by decide +kernel
theorem dX3_requirePerson_4 : decode cX3_requirePerson 4 = .ok (.iload_n 1, 1) := by decide +kernel
theorem dX3_requirePerson_5 : decode cX3_requirePerson 5 = .ok (.aload_n 0, 1) := by decide +kernel
theorem dX3_requirePerson_6 : decode cX3_requirePerson 6 = .ok (.getfield 27, 3) := by decide +kernel
theorem dX3_requirePerson_9 : decode cX3_requirePerson 9 = .ok (.if_icmp .lt 14, 3) := by decide +kernel
theorem dX3_requirePerson_12 : decode cX3_requirePerson 12 = .ok (.new 194, 3) := by decide +kernel
theorem dX3_requirePerson_15 : decode cX3_requirePerson 15 = .ok (.dup, 1) := by decide +kernel
theorem dX3_requirePerson_16 : decode cX3_requirePerson 16 = .ok (.ldc_w 330, 3) := by decide +kernel
theorem dX3_requirePerson_19 : decode cX3_requirePerson 19 = .ok (.invokespecial 198, 3) := by decide +kernel
theorem dX3_requirePerson_22 : decode cX3_requirePerson 22 = .ok (.athrow, 1) := by decide +kernel
theorem dX3_requirePerson_23 : decode cX3_requirePerson 23 = .ok (.return_, 1) := by decide +kernel
theorem dX3_requirePiece_0 : decode cX3_requirePiece 0 = .ok (.iload_n 1, 1) := by decide +kernel
theorem dX3_requirePiece_1 : decode cX3_requirePiece 1 = .ok (.ifCond .lt 11, 3) := by decide +kernel
theorem dX3_requirePiece_4 : decode cX3_requirePiece 4 = .ok (.iload_n 1, 1) := by decide +kernel
theorem dX3_requirePiece_5 : decode cX3_requirePiece 5 = .ok (.aload_n 0, 1) := by decide +kernel
theorem dX3_requirePiece_6 : decode cX3_requirePiece 6 = .ok (.getfield 31, 3) := by decide +kernel
theorem dX3_requirePiece_9 : decode cX3_requirePiece 9 = .ok (.if_icmp .lt 14, 3) := by decide +kernel
theorem dX3_requirePiece_12 : decode cX3_requirePiece 12 = .ok (.new 194, 3) := by decide +kernel
theorem dX3_requirePiece_15 : decode cX3_requirePiece 15 = .ok (.dup, 1) := by decide +kernel
theorem dX3_requirePiece_16 : decode cX3_requirePiece 16 = .ok (.ldc_w 332, 3) := by decide +kernel
theorem dX3_requirePiece_19 : decode cX3_requirePiece 19 = .ok (.invokespecial 198, 3) := by decide +kernel
theorem dX3_requirePiece_22 : decode cX3_requirePiece 22 = .ok (.athrow, 1) := by decide +kernel
theorem dX3_requirePiece_23 : decode cX3_requirePiece 23 = .ok (.return_, 1) := by decide +kernel
theorem dX3_requireGag_0 : decode cX3_requireGag 0 = .ok (.iload_n 1, 1) := by decide +kernel
theorem dX3_requireGag_1 : decode cX3_requireGag 1 = .ok (.ifCond .lt 11, 3) := by decide +kernel
theorem dX3_requireGag_4 : decode cX3_requireGag 4 = .ok (.iload_n 1, 1) := by decide +kernel
theorem dX3_requireGag_5 : decode cX3_requireGag 5 = .ok (.aload_n 0, 1) := by decide +kernel
theorem dX3_requireGag_6 : decode cX3_requireGag 6 = .ok (.getfield 34, 3) := by decide +kernel
theorem dX3_requireGag_9 : decode cX3_requireGag 9 = .ok (.if_icmp .lt 14, 3) := by decide +kernel
theorem dX3_requireGag_12 : decode cX3_requireGag 12 = .ok (.new 194, 3) := by decide +kernel
theorem dX3_requireGag_15 : decode cX3_requireGag 15 = .ok (.dup, 1) := by decide +kernel
theorem dX3_requireGag_16 : decode cX3_requireGag 16 = .ok (.ldc_w 334, 3) := by decide +kernel
theorem dX3_requireGag_19 : decode cX3_requireGag 19 = .ok (.invokespecial 198, 3) := by decide +kernel
theorem dX3_requireGag_22 : decode cX3_requireGag 22 = .ok (.athrow, 1) := by decide +kernel
theorem dX3_requireGag_23 : decode cX3_requireGag 23 = .ok (.return_, 1) := by decide +kernel
theorem dX3_requireKind_0 : decode cX3_requireKind 0 = .ok (.iload_n 0, 1) := by decide +kernel
theorem dX3_requireKind_1 : decode cX3_requireKind 1 = .ok (.ifCond .lt 8, 3) := by decide +kernel
theorem dX3_requireKind_4 : decode cX3_requireKind 4 = .ok (.iload_n 0, 1) := by decide +kernel
theorem dX3_requireKind_5 : decode cX3_requireKind 5 = .ok (.iconst 4, 1) := by decide +kernel
theorem dX3_requireKind_6 : decode cX3_requireKind 6 = .ok (.if_icmp .lt 14, 3) := by decide +kernel
theorem dX3_requireKind_9 : decode cX3_requireKind 9 = .ok (.new 194, 3) := by decide +kernel
theorem dX3_requireKind_12 : decode cX3_requireKind 12 = .ok (.dup, 1) := by decide +kernel
theorem dX3_requireKind_13 : decode cX3_requireKind 13 = .ok (.ldc_w 336, 3) := by decide +kernel
theorem dX3_requireKind_16 : decode cX3_requireKind 16 = .ok (.invokespecial 198, 3) := by decide +kernel
theorem dX3_requireKind_19 : decode cX3_requireKind 19 = .ok (.athrow, 1) := by decide +kernel
theorem dX3_requireKind_20 : decode cX3_requireKind 20 = .ok (.return_, 1) := by decide +kernel
theorem dX3_requireRange_0 : decode cX3_requireRange 0 = .ok (.iload_n 0, 1) := by decide +kernel
theorem dX3_requireRange_1 : decode cX3_requireRange 1 = .ok (.iload_n 1, 1) := by decide +kernel
theorem dX3_requireRange_2 : decode cX3_requireRange 2 = .ok (.if_icmp .lt 8, 3) := by decide +kernel
theorem dX3_requireRange_5 : decode cX3_requireRange 5 = .ok (.iload_n 0, 1) := by decide +kernel
theorem dX3_requireRange_6 : decode cX3_requireRange 6 = .ok (.iload_n 2, 1) := by decide +kernel
theorem dX3_requireRange_7 : decode cX3_requireRange 7 = .ok (.if_icmp .le 14, 3) := by decide +kernel
theorem dX3_requireRange_10 : decode cX3_requireRange 10 = .ok (.new 338, 3) := by decide +kernel
theorem dX3_requireRange_13 : decode cX3_requireRange 13 = .ok (.dup, 1) := by decide +kernel
theorem dX3_requireRange_14 : decode cX3_requireRange 14 = .ok (.ldc_w 340, 3) := by decide +kernel
theorem dX3_requireRange_17 : decode cX3_requireRange 17 = .ok (.invokespecial 342, 3) := by decide +kernel
theorem dX3_requireRange_20 : decode cX3_requireRange 20 = .ok (.athrow, 1) := by decide +kernel
theorem dX3_requireRange_21 : decode cX3_requireRange 21 = .ok (.return_, 1) := by decide +kernel
theorem dX3_requireArmed_0 : decode cX3_requireArmed 0 = .ok (.aload_n 0, 1) := by decide +kernel
theorem dX3_requireArmed_1 : decode cX3_requireArmed 1 = .ok (.getfield 23, 3) := by decide +kernel
theorem dX3_requireArmed_4 : decode cX3_requireArmed 4 = .ok (.iload_n 1, 1) := by decide +kernel
theorem dX3_requireArmed_5 : decode cX3_requireArmed 5 = .ok (.aaload, 1) := by decide +kernel
theorem dX3_requireArmed_6 : decode cX3_requireArmed 6 = .ok (.getfield 107, 3) := by decide +kernel
theorem dX3_requireArmed_9 : decode cX3_requireArmed 9 = .ok (.ifCond .ne 14, 3) := by decide +kernel
theorem dX3_requireArmed_12 : decode cX3_requireArmed 12 = .ok (.new 70, 3) := by decide +kernel
theorem dX3_requireArmed_15 : decode cX3_requireArmed 15 = .ok (.dup, 1) := by decide +kernel
theorem dX3_requireArmed_16 : decode cX3_requireArmed 16 = .ok (.ldc_w 343, 3) := by decide +kernel
theorem dX3_requireArmed_19 : decode cX3_requireArmed 19 = .ok (.invokespecial 74, 3) := by decide +kernel
theorem dX3_requireArmed_22 : decode cX3_requireArmed 22 = .ok (.athrow, 1) := by decide +kernel
theorem dX3_requireArmed_23 : decode cX3_requireArmed 23 = .ok (.return_, 1) := by decide +kernel
theorem dX3_energyAt_0 : decode cX3_energyAt 0 = .ok (.iload_n 1, 1) := by decide +kernel
theorem dX3_energyAt_1 : decode cX3_energyAt 1 = .ok (.tableswitch 50 0 2 #[27, 32, 38], 27) := by decide +kernel
theorem dX3_energyAt_28 : decode cX3_energyAt 28 = .ok (.bipush 10, 2) := by decide +kernel
theorem dX3_energyAt_30 : decode cX3_energyAt 30 = .ok (.iload_n 2, 1) := by decide +kernel
theorem dX3_energyAt_31 : decode cX3_energyAt 31 = .ok (.imul, 1) := by decide +kernel
theorem dX3_energyAt_32 : decode cX3_energyAt 32 = .ok (.ireturn, 1) := by decide +kernel
theorem dX3_energyAt_33 : decode cX3_energyAt 33 = .ok (.iload_n 2, 1) := by decide +kernel
theorem dX3_energyAt_34 : decode cX3_energyAt 34 = .ok (.iload_n 2, 1) := by decide +kernel
theorem dX3_energyAt_35 : decode cX3_energyAt 35 = .ok (.imul, 1) := by decide +kernel
theorem dX3_energyAt_36 : decode cX3_energyAt 36 = .ok (.iconst 2, 1) := by decide +kernel
theorem dX3_energyAt_37 : decode cX3_energyAt 37 = .ok (.idiv, 1) := by decide +kernel
theorem dX3_energyAt_38 : decode cX3_energyAt 38 = .ok (.ireturn, 1) := by decide +kernel
theorem dX3_energyAt_39 : decode cX3_energyAt 39 = .ok (.bipush 6, 2) := by decide +kernel
theorem dX3_energyAt_41 : decode cX3_energyAt 41 = .ok (.iload_n 2, 1) := by decide +kernel
theorem dX3_energyAt_42 : decode cX3_energyAt 42 = .ok (.imul, 1) := by decide +kernel
theorem dX3_energyAt_43 : decode cX3_energyAt 43 = .ok (.aload_n 0, 1) := by decide +kernel
theorem dX3_energyAt_44 : decode cX3_energyAt 44 = .ok (.getfield 47, 3) := by decide +kernel
theorem dX3_energyAt_47 : decode cX3_energyAt 47 = .ok (.iload_n 2, 1) := by decide +kernel
theorem dX3_energyAt_48 : decode cX3_energyAt 48 = .ok (.imul, 1) := by decide +kernel
theorem dX3_energyAt_49 : decode cX3_energyAt 49 = .ok (.iadd, 1) := by decide +kernel
theorem dX3_energyAt_50 : decode cX3_energyAt 50 = .ok (.ireturn, 1) := by decide +kernel
theorem dX3_energyAt_51 : decode cX3_energyAt 51 = .ok (.iconst 5, 1) := by decide +kernel
theorem dX3_energyAt_52 : decode cX3_energyAt 52 = .ok (.iload_n 2, 1) := by decide +kernel
theorem dX3_energyAt_53 : decode cX3_energyAt 53 = .ok (.imul, 1) := by decide +kernel
theorem dX3_energyAt_54 : decode cX3_energyAt 54 = .ok (.ireturn, 1) := by decide +kernel
theorem dX3_energyOf_0 : decode cX3_energyOf 0 = .ok (.aload_n 0, 1) := by decide +kernel
theorem dX3_energyOf_1 : decode cX3_energyOf 1 = .ok (.aload_n 0, 1) := by decide +kernel
theorem dX3_energyOf_2 : decode cX3_energyOf 2 = .ok (.getfield 23, 3) := by decide +kernel
theorem dX3_energyOf_5 : decode cX3_energyOf 5 = .ok (.iload_n 1, 1) := by decide +kernel
theorem dX3_energyOf_6 : decode cX3_energyOf 6 = .ok (.aaload, 1) := by decide +kernel
theorem dX3_energyOf_7 : decode cX3_energyOf 7 = .ok (.getfield 117, 3) := by decide +kernel
theorem dX3_energyOf_10 : decode cX3_energyOf 10 = .ok (.aload_n 0, 1) := by decide +kernel
theorem dX3_energyOf_11 : decode cX3_energyOf 11 = .ok (.getfield 23, 3) := by decide +kernel
theorem dX3_energyOf_14 : decode cX3_energyOf 14 = .ok (.iload_n 1, 1) := by decide +kernel
theorem dX3_energyOf_15 : decode cX3_energyOf 15 = .ok (.aaload, 1) := by decide +kernel
theorem dX3_energyOf_16 : decode cX3_energyOf 16 = .ok (.getfield 155, 3) := by decide +kernel
theorem dX3_energyOf_19 : decode cX3_energyOf 19 = .ok (.invokevirtual 279, 3) := by decide +kernel
theorem dX3_energyOf_22 : decode cX3_energyOf 22 = .ok (.ireturn, 1) := by decide +kernel
theorem dX3_ringOf_0 : decode cX3_ringOf 0 = .ok (.aload_n 0, 1) := by decide +kernel
theorem dX3_ringOf_1 : decode cX3_ringOf 1 = .ok (.aload_n 0, 1) := by decide +kernel
theorem dX3_ringOf_2 : decode cX3_ringOf 2 = .ok (.getfield 23, 3) := by decide +kernel
theorem dX3_ringOf_5 : decode cX3_ringOf 5 = .ok (.iload_n 1, 1) := by decide +kernel
theorem dX3_ringOf_6 : decode cX3_ringOf 6 = .ok (.aaload, 1) := by decide +kernel
theorem dX3_ringOf_7 : decode cX3_ringOf 7 = .ok (.getfield 117, 3) := by decide +kernel
theorem dX3_ringOf_10 : decode cX3_ringOf 10 = .ok (.aload_n 0, 1) := by decide +kernel
theorem dX3_ringOf_11 : decode cX3_ringOf 11 = .ok (.getfield 23, 3) := by decide +kernel
theorem dX3_ringOf_14 : decode cX3_ringOf 14 = .ok (.iload_n 1, 1) := by decide +kernel
theorem dX3_ringOf_15 : decode cX3_ringOf 15 = .ok (.aaload, 1) := by decide +kernel
theorem dX3_ringOf_16 : decode cX3_ringOf 16 = .ok (.getfield 155, 3) := by decide +kernel
theorem dX3_ringOf_19 : decode cX3_ringOf 19 = .ok (.invokevirtual 279, 3) := by decide +kernel
theorem dX3_ringOf_22 : decode cX3_ringOf 22 = .ok (.bipush 15, 2) := by decide +kernel
theorem dX3_ringOf_24 : decode cX3_ringOf 24 = .ok (.idiv, 1) := by decide +kernel
theorem dX3_ringOf_25 : decode cX3_ringOf 25 = .ok (.ireturn, 1) := by decide +kernel
theorem dX3_guardOf_0 : decode cX3_guardOf 0 = .ok (.iconst 0, 1) := by decide +kernel
theorem dX3_guardOf_1 : decode cX3_guardOf 1 = .ok (.istore_n 2, 1) := by decide +kernel
theorem dX3_guardOf_2 : decode cX3_guardOf 2 = .ok (.iconst 0, 1) := by decide +kernel
theorem dX3_guardOf_3 : decode cX3_guardOf 3 = .ok (.istore_n 3, 1) := by decide +kernel
theorem dX3_guardOf_4 : decode cX3_guardOf 4 = .ok (.iload_n 3, 1) := by decide +kernel
theorem dX3_guardOf_5 : decode cX3_guardOf 5 = .ok (.aload_n 0, 1) := by decide +kernel
theorem dX3_guardOf_6 : decode cX3_guardOf 6 = .ok (.getfield 31, 3) := by decide +kernel
theorem dX3_guardOf_9 : decode cX3_guardOf 9 = .ok (.if_icmp .ge 30, 3) := by decide +kernel
theorem dX3_guardOf_12 : decode cX3_guardOf 12 = .ok (.aload_n 0, 1) := by decide +kernel
theorem dX3_guardOf_13 : decode cX3_guardOf 13 = .ok (.iload_n 3, 1) := by decide +kernel
theorem dX3_guardOf_14 : decode cX3_guardOf 14 = .ok (.iload_n 1, 1) := by decide +kernel
theorem dX3_guardOf_15 : decode cX3_guardOf 15 = .ok (.invokevirtual 345, 3) := by decide +kernel
theorem dX3_guardOf_18 : decode cX3_guardOf 18 = .ok (.ifCond .eq 15, 3) := by decide +kernel
theorem dX3_guardOf_21 : decode cX3_guardOf 21 = .ok (.iload_n 2, 1) := by decide +kernel
theorem dX3_guardOf_22 : decode cX3_guardOf 22 = .ok (.aload_n 0, 1) := by decide +kernel
theorem dX3_guardOf_23 : decode cX3_guardOf 23 = .ok (.getfield 17, 3) := by decide +kernel
theorem dX3_guardOf_26 : decode cX3_guardOf 26 = .ok (.iload_n 3, 1) := by decide +kernel
theorem dX3_guardOf_27 : decode cX3_guardOf 27 = .ok (.aaload, 1) := by decide +kernel
theorem dX3_guardOf_28 : decode cX3_guardOf 28 = .ok (.getfield 126, 3) := by decide +kernel
theorem dX3_guardOf_31 : decode cX3_guardOf 31 = .ok (.iadd, 1) := by decide +kernel
theorem dX3_guardOf_32 : decode cX3_guardOf 32 = .ok (.istore_n 2, 1) := by decide +kernel
theorem dX3_guardOf_33 : decode cX3_guardOf 33 = .ok (.iinc 3 1, 3) := by decide +kernel
theorem dX3_guardOf_36 : decode cX3_guardOf 36 = .ok (.goto (-32), 3) := by decide +kernel
theorem dX3_guardOf_39 : decode cX3_guardOf 39 = .ok (.iload_n 2, 1) := by decide +kernel
theorem dX3_guardOf_40 : decode cX3_guardOf 40 = .ok (.ireturn, 1) := by decide +kernel
theorem dX3_guards_0 : decode cX3_guards 0 = .ok (.aload_n 0, 1) := by decide +kernel
theorem dX3_guards_1 : decode cX3_guards 1 = .ok (.getfield 17, 3) := by decide +kernel
theorem dX3_guards_4 : decode cX3_guards 4 = .ok (.iload_n 1, 1) := by decide +kernel
theorem dX3_guards_5 : decode cX3_guards 5 = .ok (.aaload, 1) := by decide +kernel
theorem dX3_guards_6 : decode cX3_guards 6 = .ok (.getfield 141, 3) := by decide +kernel
theorem dX3_guards_9 : decode cX3_guards 9 = .ok (.iload_n 2, 1) := by decide +kernel
theorem dX3_guards_10 : decode cX3_guards 10 = .ok (.if_icmp .ne 36, 3) := by decide +kernel
theorem dX3_guards_13 : decode cX3_guards 13 = .ok (.aload_n 0, 1) := by decide +kernel
theorem dX3_guards_14 : decode cX3_guards 14 = .ok (.getfield 17, 3) := by decide +kernel
theorem dX3_guards_17 : decode cX3_guards 17 = .ok (.iload_n 1, 1) := by decide +kernel
theorem dX3_guards_18 : decode cX3_guards 18 = .ok (.aaload, 1) := by decide +kernel
theorem dX3_guards_19 : decode cX3_guards 19 = .ok (.getfield 125, 3) := by decide +kernel
theorem dX3_guards_22 : decode cX3_guards 22 = .ok (.aload_n 0, 1) := by decide +kernel
theorem dX3_guards_23 : decode cX3_guards 23 = .ok (.getfield 23, 3) := by decide +kernel
theorem dX3_guards_26 : decode cX3_guards 26 = .ok (.iload_n 2, 1) := by decide +kernel
theorem dX3_guards_27 : decode cX3_guards 27 = .ok (.aaload, 1) := by decide +kernel
theorem dX3_guards_28 : decode cX3_guards 28 = .ok (.getfield 117, 3) := by decide +kernel
theorem dX3_guards_31 : decode cX3_guards 31 = .ok (.if_icmp .ne 15, 3) := by decide +kernel
theorem dX3_guards_34 : decode cX3_guards 34 = .ok (.aload_n 0, 1) := by decide +kernel
theorem dX3_guards_35 : decode cX3_guards 35 = .ok (.iload_n 1, 1) := by decide +kernel
theorem dX3_guards_36 : decode cX3_guards 36 = .ok (.invokevirtual 258, 3) := by decide +kernel
theorem dX3_guards_39 : decode cX3_guards 39 = .ok (.ifCond .eq 7, 3) := by decide +kernel
theorem dX3_guards_42 : decode cX3_guards 42 = .ok (.iconst 1, 1) := by decide +kernel
theorem dX3_guards_43 : decode cX3_guards 43 = .ok (.goto 4, 3) := by decide +kernel
theorem dX3_guards_46 : decode cX3_guards 46 = .ok (.iconst 0, 1) := by decide +kernel
theorem dX3_guards_47 : decode cX3_guards 47 = .ok (.ireturn, 1) := by decide +kernel
theorem dX3_isFit_0 : decode cX3_isFit 0 = .ok (.aload_n 0, 1) := by decide +kernel
theorem dX3_isFit_1 : decode cX3_isFit 1 = .ok (.getfield 17, 3) := by decide +kernel
theorem dX3_isFit_4 : decode cX3_isFit 4 = .ok (.iload_n 1, 1) := by decide +kernel
theorem dX3_isFit_5 : decode cX3_isFit 5 = .ok (.aaload, 1) := by decide +kernel
theorem dX3_isFit_6 : decode cX3_isFit 6 = .ok (.astore_n 2, 1) := by decide +kernel
theorem dX3_isFit_7 : decode cX3_isFit 7 = .ok (.aload_n 2, 1) := by decide +kernel
theorem dX3_isFit_8 : decode cX3_isFit 8 = .ok (.getfield 129, 3) := by decide +kernel
theorem dX3_isFit_11 : decode cX3_isFit 11 = .ok (.ifCond .le 28, 3) := by decide +kernel
theorem dX3_isFit_14 : decode cX3_isFit 14 = .ok (.aload_n 2, 1) := by decide +kernel
theorem dX3_isFit_15 : decode cX3_isFit 15 = .ok (.getfield 135, 3) := by decide +kernel
theorem dX3_isFit_18 : decode cX3_isFit 18 = .ok (.iconst (-1), 1) := by decide +kernel
theorem dX3_isFit_19 : decode cX3_isFit 19 = .ok (.if_icmp .eq 20, 3) := by decide +kernel
theorem dX3_isFit_22 : decode cX3_isFit 22 = .ok (.aload_n 0, 1) := by decide +kernel
theorem dX3_isFit_23 : decode cX3_isFit 23 = .ok (.getfield 44, 3) := by decide +kernel
theorem dX3_isFit_26 : decode cX3_isFit 26 = .ok (.aload_n 2, 1) := by decide +kernel
theorem dX3_isFit_27 : decode cX3_isFit 27 = .ok (.getfield 135, 3) := by decide +kernel
theorem dX3_isFit_30 : decode cX3_isFit 30 = .ok (.isub, 1) := by decide +kernel
theorem dX3_isFit_31 : decode cX3_isFit 31 = .ok (.iconst 2, 1) := by decide +kernel
theorem dX3_isFit_32 : decode cX3_isFit 32 = .ok (.if_icmp .gt 7, 3) := by decide +kernel
theorem dX3_isFit_35 : decode cX3_isFit 35 = .ok (.iconst 1, 1) := by decide +kernel
theorem dX3_isFit_36 : decode cX3_isFit 36 = .ok (.goto 4, 3) := by decide +kernel
theorem dX3_isFit_39 : decode cX3_isFit 39 = .ok (.iconst 0, 1) := by decide +kernel
theorem dX3_isFit_40 : decode cX3_isFit 40 = .ok (.ireturn, 1) := by decide +kernel
theorem dX3_marginOf_0 : decode cX3_marginOf 0 = .ok (.aload_n 0, 1) := by decide +kernel
theorem dX3_marginOf_1 : decode cX3_marginOf 1 = .ok (.iload_n 1, 1) := by decide +kernel
theorem dX3_marginOf_2 : decode cX3_marginOf 2 = .ok (.invokevirtual 264, 3) := by decide +kernel
theorem dX3_marginOf_5 : decode cX3_marginOf 5 = .ok (.aload_n 0, 1) := by decide +kernel
theorem dX3_marginOf_6 : decode cX3_marginOf 6 = .ok (.aload_n 0, 1) := by decide +kernel
theorem dX3_marginOf_7 : decode cX3_marginOf 7 = .ok (.getfield 23, 3) := by decide +kernel
theorem dX3_marginOf_10 : decode cX3_marginOf 10 = .ok (.iload_n 1, 1) := by decide +kernel
theorem dX3_marginOf_11 : decode cX3_marginOf 11 = .ok (.aaload, 1) := by decide +kernel
theorem dX3_marginOf_12 : decode cX3_marginOf 12 = .ok (.getfield 151, 3) := by decide +kernel
theorem dX3_marginOf_15 : decode cX3_marginOf 15 = .ok (.aload_n 0, 1) := by decide +kernel
theorem dX3_marginOf_16 : decode cX3_marginOf 16 = .ok (.getfield 23, 3) := by decide +kernel
theorem dX3_marginOf_19 : decode cX3_marginOf 19 = .ok (.iload_n 1, 1) := by decide +kernel
theorem dX3_marginOf_20 : decode cX3_marginOf 20 = .ok (.aaload, 1) := by decide +kernel
theorem dX3_marginOf_21 : decode cX3_marginOf 21 = .ok (.getfield 117, 3) := by decide +kernel
theorem dX3_marginOf_24 : decode cX3_marginOf 24 = .ok (.invokevirtual 285, 3) := by decide +kernel
theorem dX3_marginOf_27 : decode cX3_marginOf 27 = .ok (.iadd, 1) := by decide +kernel
theorem dX3_marginOf_28 : decode cX3_marginOf 28 = .ok (.aload_n 0, 1) := by decide +kernel
theorem dX3_marginOf_29 : decode cX3_marginOf 29 = .ok (.iload_n 1, 1) := by decide +kernel
theorem dX3_marginOf_30 : decode cX3_marginOf 30 = .ok (.invokevirtual 181, 3) := by decide +kernel
theorem dX3_marginOf_33 : decode cX3_marginOf 33 = .ok (.isub, 1) := by decide +kernel
theorem dX3_marginOf_34 : decode cX3_marginOf 34 = .ok (.ireturn, 1) := by decide +kernel
theorem dX3_marginWithoutEnergy_0 : decode cX3_marginWithoutEnergy 0 = .ok (.aload_n 0, 1) := by decide +kernel
theorem dX3_marginWithoutEnergy_1 : decode cX3_marginWithoutEnergy 1 = .ok (.iload_n 1, 1) := by decide +kernel
theorem dX3_marginWithoutEnergy_2 : decode cX3_marginWithoutEnergy 2 = .ok (.invokevirtual 215, 3) := by decide +kernel
theorem dX3_marginWithoutEnergy_5 : decode cX3_marginWithoutEnergy 5 = .ok (.aload_n 0, 1) := by decide +kernel
theorem dX3_marginWithoutEnergy_6 : decode cX3_marginWithoutEnergy 6 = .ok (.iload_n 1, 1) := by decide +kernel
theorem dX3_marginWithoutEnergy_7 : decode cX3_marginWithoutEnergy 7 = .ok (.invokevirtual 181, 3) := by decide +kernel
theorem dX3_marginWithoutEnergy_10 : decode cX3_marginWithoutEnergy 10 = .ok (.iadd, 1) := by decide +kernel
theorem dX3_marginWithoutEnergy_11 : decode cX3_marginWithoutEnergy 11 = .ok (.ireturn, 1) := by decide +kernel
theorem dX3_performersShare_0 : decode cX3_performersShare 0 = .ok (.aload_n 0, 1) := by decide +kernel
theorem dX3_performersShare_1 : decode cX3_performersShare 1 = .ok (.getfield 11, 3) := by decide +kernel
theorem dX3_performersShare_4 : decode cX3_performersShare 4 = .ok (.iload_n 1, 1) := by decide +kernel
theorem dX3_performersShare_5 : decode cX3_performersShare 5 = .ok (.aaload, 1) := by decide +kernel
theorem dX3_performersShare_6 : decode cX3_performersShare 6 = .ok (.astore_n 3, 1) := by decide +kernel
theorem dX3_performersShare_7 : decode cX3_performersShare 7 = .ok (.iconst 5, 1) := by decide +kernel
theorem dX3_performersShare_8 : decode cX3_performersShare 8 = .ok (.aload_n 3, 1) := by decide +kernel
theorem dX3_performersShare_9 : decode cX3_performersShare 9 = .ok (.getfield 97, 3) := by decide +kernel
theorem dX3_performersShare_12 : decode cX3_performersShare 12 = .ok (.iload_n 2, 1) := by decide +kernel
theorem dX3_performersShare_13 : decode cX3_performersShare 13 = .ok (.iaload, 1) := by decide +kernel
theorem dX3_performersShare_14 : decode cX3_performersShare 14 = .ok (.imul, 1) := by decide +kernel
theorem dX3_performersShare_15 : decode cX3_performersShare 15 = .ok (.bipush 20, 2) := by decide +kernel
theorem dX3_performersShare_17 : decode cX3_performersShare 17 = .ok (.iadd, 1) := by decide +kernel
theorem dX3_performersShare_18 : decode cX3_performersShare 18 = .ok (.aload_n 3, 1) := by decide +kernel
theorem dX3_performersShare_19 : decode cX3_performersShare 19 = .ok (.getfield 246, 3) := by decide +kernel
theorem dX3_performersShare_22 : decode cX3_performersShare 22 = .ok (.iconst 2, 1) := by decide +kernel
theorem dX3_performersShare_23 : decode cX3_performersShare 23 = .ok (.idiv, 1) := by decide +kernel
theorem dX3_performersShare_24 : decode cX3_performersShare 24 = .ok (.isub, 1) := by decide +kernel
theorem dX3_performersShare_25 : decode cX3_performersShare 25 = .ok (.iconst 5, 1) := by decide +kernel
theorem dX3_performersShare_26 : decode cX3_performersShare 26 = .ok (.aload_n 0, 1) := by decide +kernel
theorem dX3_performersShare_27 : decode cX3_performersShare 27 = .ok (.getfield 37, 3) := by decide +kernel
theorem dX3_performersShare_30 : decode cX3_performersShare 30 = .ok (.iload_n 2, 1) := by decide +kernel
theorem dX3_performersShare_31 : decode cX3_performersShare 31 = .ok (.iaload, 1) := by decide +kernel
theorem dX3_performersShare_32 : decode cX3_performersShare 32 = .ok (.imul, 1) := by decide +kernel
theorem dX3_performersShare_33 : decode cX3_performersShare 33 = .ok (.isub, 1) := by decide +kernel
theorem dX3_performersShare_34 : decode cX3_performersShare 34 = .ok (.ireturn, 1) := by decide +kernel
theorem dX3_distance_0 : decode cX3_distance 0 = .ok (.iload_n 0, 1) := by decide +kernel
theorem dX3_distance_1 : decode cX3_distance 1 = .ok (.iload_n 1, 1) := by decide +kernel
theorem dX3_distance_2 : decode cX3_distance 2 = .ok (.isub, 1) := by decide +kernel
theorem dX3_distance_3 : decode cX3_distance 3 = .ok (.invokestatic 348, 3) := by decide +kernel
theorem dX3_distance_6 : decode cX3_distance 6 = .ok (.ireturn, 1) := by decide +kernel
theorem dX3_standsInRing_0 : decode cX3_standsInRing 0 = .ok (.iload_n 1, 1) := by decide +kernel
theorem dX3_standsInRing_1 : decode cX3_standsInRing 1 = .ok (.aload_n 0, 1) := by decide +kernel
theorem dX3_standsInRing_2 : decode cX3_standsInRing 2 = .ok (.getfield 23, 3) := by decide +kernel
theorem dX3_standsInRing_5 : decode cX3_standsInRing 5 = .ok (.iload_n 2, 1) := by decide +kernel
theorem dX3_standsInRing_6 : decode cX3_standsInRing 6 = .ok (.aaload, 1) := by decide +kernel
theorem dX3_standsInRing_7 : decode cX3_standsInRing 7 = .ok (.getfield 151, 3) := by decide +kernel
theorem dX3_standsInRing_10 : decode cX3_standsInRing 10 = .ok (.if_icmp .eq 36, 3) := by decide +kernel
theorem dX3_standsInRing_13 : decode cX3_standsInRing 13 = .ok (.aload_n 0, 1) := by decide +kernel
theorem dX3_standsInRing_14 : decode cX3_standsInRing 14 = .ok (.getfield 11, 3) := by decide +kernel
theorem dX3_standsInRing_17 : decode cX3_standsInRing 17 = .ok (.iload_n 1, 1) := by decide +kernel
theorem dX3_standsInRing_18 : decode cX3_standsInRing 18 = .ok (.aaload, 1) := by decide +kernel
theorem dX3_standsInRing_19 : decode cX3_standsInRing 19 = .ok (.getfield 104, 3) := by decide +kernel
theorem dX3_standsInRing_22 : decode cX3_standsInRing 22 = .ok (.aload_n 0, 1) := by decide +kernel
theorem dX3_standsInRing_23 : decode cX3_standsInRing 23 = .ok (.getfield 23, 3) := by decide +kernel
theorem dX3_standsInRing_26 : decode cX3_standsInRing 26 = .ok (.iload_n 2, 1) := by decide +kernel
theorem dX3_standsInRing_27 : decode cX3_standsInRing 27 = .ok (.aaload, 1) := by decide +kernel
theorem dX3_standsInRing_28 : decode cX3_standsInRing 28 = .ok (.getfield 154, 3) := by decide +kernel
theorem dX3_standsInRing_31 : decode cX3_standsInRing 31 = .ok (.invokestatic 351, 3) := by decide +kernel
theorem dX3_standsInRing_34 : decode cX3_standsInRing 34 = .ok (.aload_n 0, 1) := by decide +kernel
theorem dX3_standsInRing_35 : decode cX3_standsInRing 35 = .ok (.iload_n 2, 1) := by decide +kernel
theorem dX3_standsInRing_36 : decode cX3_standsInRing 36 = .ok (.invokevirtual 261, 3) := by decide +kernel
theorem dX3_standsInRing_39 : decode cX3_standsInRing 39 = .ok (.if_icmp .gt 7, 3) := by decide +kernel
theorem dX3_standsInRing_42 : decode cX3_standsInRing 42 = .ok (.iconst 1, 1) := by decide +kernel
theorem dX3_standsInRing_43 : decode cX3_standsInRing 43 = .ok (.goto 4, 3) := by decide +kernel
theorem dX3_standsInRing_46 : decode cX3_standsInRing 46 = .ok (.iconst 0, 1) := by decide +kernel
theorem dX3_standsInRing_47 : decode cX3_standsInRing 47 = .ok (.ireturn, 1) := by decide +kernel
theorem dX3_isOccupied_0 : decode cX3_isOccupied 0 = .ok (.iconst 0, 1) := by decide +kernel
theorem dX3_isOccupied_1 : decode cX3_isOccupied 1 = .ok (.istore_n 2, 1) := by decide +kernel
theorem dX3_isOccupied_2 : decode cX3_isOccupied 2 = .ok (.iload_n 2, 1) := by decide +kernel
theorem dX3_isOccupied_3 : decode cX3_isOccupied 3 = .ok (.aload_n 0, 1) := by decide +kernel
theorem dX3_isOccupied_4 : decode cX3_isOccupied 4 = .ok (.getfield 27, 3) := by decide +kernel
theorem dX3_isOccupied_7 : decode cX3_isOccupied 7 = .ok (.if_icmp .ge 20, 3) := by decide +kernel
theorem dX3_isOccupied_10 : decode cX3_isOccupied 10 = .ok (.aload_n 0, 1) := by decide +kernel
theorem dX3_isOccupied_11 : decode cX3_isOccupied 11 = .ok (.iload_n 2, 1) := by decide +kernel
theorem dX3_isOccupied_12 : decode cX3_isOccupied 12 = .ok (.iload_n 1, 1) := by decide +kernel
theorem dX3_isOccupied_13 : decode cX3_isOccupied 13 = .ok (.invokevirtual 110, 3) := by decide +kernel
theorem dX3_isOccupied_16 : decode cX3_isOccupied 16 = .ok (.ifCond .eq 5, 3) := by decide +kernel
theorem dX3_isOccupied_19 : decode cX3_isOccupied 19 = .ok (.iconst 1, 1) := by decide +kernel
theorem dX3_isOccupied_20 : decode cX3_isOccupied 20 = .ok (.ireturn, 1) := by decide +kernel
theorem dX3_isOccupied_21 : decode cX3_isOccupied 21 = .ok (.iinc 2 1, 3) := by decide +kernel
theorem dX3_isOccupied_24 : decode cX3_isOccupied 24 = .ok (.goto (-22), 3) := by decide +kernel
theorem dX3_isOccupied_27 : decode cX3_isOccupied 27 = .ok (.iconst 0, 1) := by decide +kernel
theorem dX3_isOccupied_28 : decode cX3_isOccupied 28 = .ok (.ireturn, 1) := by decide +kernel
theorem dX3_ringsAround_0 : decode cX3_ringsAround 0 = .ok (.iconst 0, 1) := by decide +kernel
theorem dX3_ringsAround_1 : decode cX3_ringsAround 1 = .ok (.istore_n 2, 1) := by decide +kernel
theorem dX3_ringsAround_2 : decode cX3_ringsAround 2 = .ok (.iconst 0, 1) := by decide +kernel
theorem dX3_ringsAround_3 : decode cX3_ringsAround 3 = .ok (.istore_n 3, 1) := by decide +kernel
theorem dX3_ringsAround_4 : decode cX3_ringsAround 4 = .ok (.iload_n 3, 1) := by decide +kernel
theorem dX3_ringsAround_5 : decode cX3_ringsAround 5 = .ok (.aload_n 0, 1) := by decide +kernel
theorem dX3_ringsAround_6 : decode cX3_ringsAround 6 = .ok (.getfield 34, 3) := by decide +kernel
theorem dX3_ringsAround_9 : decode cX3_ringsAround 9 = .ok (.if_icmp .ge 24, 3) := by decide +kernel
theorem dX3_ringsAround_12 : decode cX3_ringsAround 12 = .ok (.aload_n 0, 1) := by decide +kernel
theorem dX3_ringsAround_13 : decode cX3_ringsAround 13 = .ok (.iload_n 1, 1) := by decide +kernel
theorem dX3_ringsAround_14 : decode cX3_ringsAround 14 = .ok (.iload_n 3, 1) := by decide +kernel
theorem dX3_ringsAround_15 : decode cX3_ringsAround 15 = .ok (.invokevirtual 110, 3) := by decide +kernel
theorem dX3_ringsAround_18 : decode cX3_ringsAround 18 = .ok (.ifCond .eq 9, 3) := by decide +kernel
theorem dX3_ringsAround_21 : decode cX3_ringsAround 21 = .ok (.iload_n 2, 1) := by decide +kernel
theorem dX3_ringsAround_22 : decode cX3_ringsAround 22 = .ok (.iconst 1, 1) := by decide +kernel
theorem dX3_ringsAround_23 : decode cX3_ringsAround 23 = .ok (.iload_n 3, 1) := by decide +kernel
theorem dX3_ringsAround_24 : decode cX3_ringsAround 24 = .ok (.ishl, 1) := by decide +kernel
theorem dX3_ringsAround_25 : decode cX3_ringsAround 25 = .ok (.ior, 1) := by decide +kernel
theorem dX3_ringsAround_26 : decode cX3_ringsAround 26 = .ok (.istore_n 2, 1) := by decide +kernel
theorem dX3_ringsAround_27 : decode cX3_ringsAround 27 = .ok (.iinc 3 1, 3) := by decide +kernel
theorem dX3_ringsAround_30 : decode cX3_ringsAround 30 = .ok (.goto (-26), 3) := by decide +kernel
theorem dX3_ringsAround_33 : decode cX3_ringsAround 33 = .ok (.iload_n 2, 1) := by decide +kernel
theorem dX3_ringsAround_34 : decode cX3_ringsAround 34 = .ok (.ireturn, 1) := by decide +kernel
theorem dX3_isClearPlace_0 : decode cX3_isClearPlace 0 = .ok (.iload_n 1, 1) := by decide +kernel
theorem dX3_isClearPlace_1 : decode cX3_isClearPlace 1 = .ok (.ifCond .lt 9, 3) := by decide +kernel
theorem dX3_isClearPlace_4 : decode cX3_isClearPlace 4 = .ok (.iload_n 1, 1) := by decide +kernel
theorem dX3_isClearPlace_5 : decode cX3_isClearPlace 5 = .ok (.bipush 99, 2) := by decide +kernel
theorem dX3_isClearPlace_7 : decode cX3_isClearPlace 7 = .ok (.if_icmp .le 5, 3) := by decide +kernel
theorem dX3_isClearPlace_10 : decode cX3_isClearPlace 10 = .ok (.iconst 0, 1) := by decide +kernel
theorem dX3_isClearPlace_11 : decode cX3_isClearPlace 11 = .ok (.ireturn, 1) := by decide +kernel
theorem dX3_isClearPlace_12 : decode cX3_isClearPlace 12 = .ok (.iconst 0, 1) := by decide +kernel
theorem dX3_isClearPlace_13 : decode cX3_isClearPlace 13 = .ok (.istore_n 2, 1) := by decide +kernel
theorem dX3_isClearPlace_14 : decode cX3_isClearPlace 14 = .ok (.iload_n 2, 1) := by decide +kernel
theorem dX3_isClearPlace_15 : decode cX3_isClearPlace 15 = .ok (.aload_n 0, 1) := by decide +kernel
theorem dX3_isClearPlace_16 : decode cX3_isClearPlace 16 = .ok (.getfield 34, 3) := by decide +kernel
theorem dX3_isClearPlace_19 : decode cX3_isClearPlace 19 = .ok (.if_icmp .ge 44, 3) := by decide +kernel
theorem dX3_isClearPlace_22 : decode cX3_isClearPlace 22 = .ok (.aload_n 0, 1) := by decide +kernel
theorem dX3_isClearPlace_23 : decode cX3_isClearPlace 23 = .ok (.getfield 23, 3) := by decide +kernel
theorem dX3_isClearPlace_26 : decode cX3_isClearPlace 26 = .ok (.iload_n 2, 1) := by decide +kernel
theorem dX3_isClearPlace_27 : decode cX3_isClearPlace 27 = .ok (.aaload, 1) := by decide +kernel
theorem dX3_isClearPlace_28 : decode cX3_isClearPlace 28 = .ok (.getfield 107, 3) := by decide +kernel
theorem dX3_isClearPlace_31 : decode cX3_isClearPlace 31 = .ok (.ifCond .eq 26, 3) := by decide +kernel
theorem dX3_isClearPlace_34 : decode cX3_isClearPlace 34 = .ok (.iload_n 1, 1) := by decide +kernel
theorem dX3_isClearPlace_35 : decode cX3_isClearPlace 35 = .ok (.aload_n 0, 1) := by decide +kernel
theorem dX3_isClearPlace_36 : decode cX3_isClearPlace 36 = .ok (.getfield 23, 3) := by decide +kernel
theorem dX3_isClearPlace_39 : decode cX3_isClearPlace 39 = .ok (.iload_n 2, 1) := by decide +kernel
theorem dX3_isClearPlace_40 : decode cX3_isClearPlace 40 = .ok (.aaload, 1) := by decide +kernel
theorem dX3_isClearPlace_41 : decode cX3_isClearPlace 41 = .ok (.getfield 154, 3) := by decide +kernel
theorem dX3_isClearPlace_44 : decode cX3_isClearPlace 44 = .ok (.invokestatic 351, 3) := by decide +kernel
theorem dX3_isClearPlace_47 : decode cX3_isClearPlace 47 = .ok (.aload_n 0, 1) := by decide +kernel
theorem dX3_isClearPlace_48 : decode cX3_isClearPlace 48 = .ok (.iload_n 2, 1) := by decide +kernel
theorem dX3_isClearPlace_49 : decode cX3_isClearPlace 49 = .ok (.invokevirtual 261, 3) := by decide +kernel
theorem dX3_isClearPlace_52 : decode cX3_isClearPlace 52 = .ok (.if_icmp .gt 5, 3) := by decide +kernel
theorem dX3_isClearPlace_55 : decode cX3_isClearPlace 55 = .ok (.iconst 0, 1) := by decide +kernel
theorem dX3_isClearPlace_56 : decode cX3_isClearPlace 56 = .ok (.ireturn, 1) := by decide +kernel
theorem dX3_isClearPlace_57 : decode cX3_isClearPlace 57 = .ok (.iinc 2 1, 3) := by decide +kernel
theorem dX3_isClearPlace_60 : decode cX3_isClearPlace 60 = .ok (.goto (-46), 3) := by decide +kernel
theorem dX3_isClearPlace_63 : decode cX3_isClearPlace 63 = .ok (.iconst 1, 1) := by decide +kernel
theorem dX3_isClearPlace_64 : decode cX3_isClearPlace 64 = .ok (.ireturn, 1) := by decide +kernel
theorem dX3_isReadyMedic_0 : decode cX3_isReadyMedic 0 = .ok (.aload_n 0, 1) := by decide +kernel
theorem dX3_isReadyMedic_1 : decode cX3_isReadyMedic 1 = .ok (.getfield 11, 3) := by decide +kernel
theorem dX3_isReadyMedic_4 : decode cX3_isReadyMedic 4 = .ok (.iload_n 1, 1) := by decide +kernel
theorem dX3_isReadyMedic_5 : decode cX3_isReadyMedic 5 = .ok (.aaload, 1) := by decide +kernel
theorem dX3_isReadyMedic_6 : decode cX3_isReadyMedic 6 = .ok (.getfield 80, 3) := by decide +kernel
theorem dX3_isReadyMedic_9 : decode cX3_isReadyMedic 9 = .ok (.ifCond .eq 45, 3) := by decide +kernel
theorem dX3_isReadyMedic_12 : decode cX3_isReadyMedic 12 = .ok (.aload_n 0, 1) := by decide +kernel
theorem dX3_isReadyMedic_13 : decode cX3_isReadyMedic 13 = .ok (.getfield 11, 3) := by decide +kernel
theorem dX3_isReadyMedic_16 : decode cX3_isReadyMedic 16 = .ok (.iload_n 1, 1) := by decide +kernel
theorem dX3_isReadyMedic_17 : decode cX3_isReadyMedic 17 = .ok (.aaload, 1) := by decide +kernel
theorem dX3_isReadyMedic_18 : decode cX3_isReadyMedic 18 = .ok (.getfield 167, 3) := by decide +kernel
theorem dX3_isReadyMedic_21 : decode cX3_isReadyMedic 21 = .ok (.ifCond .ne 33, 3) := by decide +kernel
theorem dX3_isReadyMedic_24 : decode cX3_isReadyMedic 24 = .ok (.aload_n 0, 1) := by decide +kernel
theorem dX3_isReadyMedic_25 : decode cX3_isReadyMedic 25 = .ok (.getfield 11, 3) := by decide +kernel
theorem dX3_isReadyMedic_28 : decode cX3_isReadyMedic 28 = .ok (.iload_n 1, 1) := by decide +kernel
theorem dX3_isReadyMedic_29 : decode cX3_isReadyMedic 29 = .ok (.aaload, 1) := by decide +kernel
theorem dX3_isReadyMedic_30 : decode cX3_isReadyMedic 30 = .ok (.getfield 104, 3) := by decide +kernel
theorem dX3_isReadyMedic_33 : decode cX3_isReadyMedic 33 = .ok (.aload_n 0, 1) := by decide +kernel
theorem dX3_isReadyMedic_34 : decode cX3_isReadyMedic 34 = .ok (.getfield 23, 3) := by decide +kernel
theorem dX3_isReadyMedic_37 : decode cX3_isReadyMedic 37 = .ok (.iload_n 2, 1) := by decide +kernel
theorem dX3_isReadyMedic_38 : decode cX3_isReadyMedic 38 = .ok (.aaload, 1) := by decide +kernel
theorem dX3_isReadyMedic_39 : decode cX3_isReadyMedic 39 = .ok (.getfield 154, 3) := by decide +kernel
theorem dX3_isReadyMedic_42 : decode cX3_isReadyMedic 42 = .ok (.invokestatic 351, 3) := by decide +kernel
theorem dX3_isReadyMedic_45 : decode cX3_isReadyMedic 45 = .ok (.bipush 25, 2) := by decide +kernel
theorem dX3_isReadyMedic_47 : decode cX3_isReadyMedic 47 = .ok (.if_icmp .gt 7, 3) := by decide +kernel
theorem dX3_isReadyMedic_50 : decode cX3_isReadyMedic 50 = .ok (.iconst 1, 1) := by decide +kernel
theorem dX3_isReadyMedic_51 : decode cX3_isReadyMedic 51 = .ok (.goto 4, 3) := by decide +kernel
theorem dX3_isReadyMedic_54 : decode cX3_isReadyMedic 54 = .ok (.iconst 0, 1) := by decide +kernel
theorem dX3_isReadyMedic_55 : decode cX3_isReadyMedic 55 = .ok (.ireturn, 1) := by decide +kernel
theorem dX3_whatBars_0 : decode cX3_whatBars 0 = .ok (.aload_n 0, 1) := by decide +kernel
theorem dX3_whatBars_1 : decode cX3_whatBars 1 = .ok (.getfield 11, 3) := by decide +kernel
theorem dX3_whatBars_4 : decode cX3_whatBars 4 = .ok (.aload_n 0, 1) := by decide +kernel
theorem dX3_whatBars_5 : decode cX3_whatBars 5 = .ok (.getfield 23, 3) := by decide +kernel
theorem dX3_whatBars_8 : decode cX3_whatBars 8 = .ok (.iload_n 1, 1) := by decide +kernel
theorem dX3_whatBars_9 : decode cX3_whatBars 9 = .ok (.aaload, 1) := by decide +kernel
theorem dX3_whatBars_10 : decode cX3_whatBars 10 = .ok (.getfield 151, 3) := by decide +kernel
theorem dX3_whatBars_13 : decode cX3_whatBars 13 = .ok (.aaload, 1) := by decide +kernel
theorem dX3_whatBars_14 : decode cX3_whatBars 14 = .ok (.getfield 167, 3) := by decide +kernel
theorem dX3_whatBars_17 : decode cX3_whatBars 17 = .ok (.ifCond .eq 5, 3) := by decide +kernel
theorem dX3_whatBars_20 : decode cX3_whatBars 20 = .ok (.iconst 1, 1) := by decide +kernel
theorem dX3_whatBars_21 : decode cX3_whatBars 21 = .ok (.ireturn, 1) := by decide +kernel
theorem dX3_whatBars_22 : decode cX3_whatBars 22 = .ok (.aload_n 0, 1) := by decide +kernel
theorem dX3_whatBars_23 : decode cX3_whatBars 23 = .ok (.getfield 23, 3) := by decide +kernel
theorem dX3_whatBars_26 : decode cX3_whatBars 26 = .ok (.iload_n 1, 1) := by decide +kernel
theorem dX3_whatBars_27 : decode cX3_whatBars 27 = .ok (.aaload, 1) := by decide +kernel
theorem dX3_whatBars_28 : decode cX3_whatBars 28 = .ok (.getfield 204, 3) := by decide +kernel
theorem dX3_whatBars_31 : decode cX3_whatBars 31 = .ok (.ifCond .eq 5, 3) := by decide +kernel
theorem dX3_whatBars_34 : decode cX3_whatBars 34 = .ok (.iconst 2, 1) := by decide +kernel
theorem dX3_whatBars_35 : decode cX3_whatBars 35 = .ok (.ireturn, 1) := by decide +kernel
theorem dX3_whatBars_36 : decode cX3_whatBars 36 = .ok (.aload_n 0, 1) := by decide +kernel
theorem dX3_whatBars_37 : decode cX3_whatBars 37 = .ok (.getfield 23, 3) := by decide +kernel
theorem dX3_whatBars_40 : decode cX3_whatBars 40 = .ok (.iload_n 1, 1) := by decide +kernel
theorem dX3_whatBars_41 : decode cX3_whatBars 41 = .ok (.aaload, 1) := by decide +kernel
theorem dX3_whatBars_42 : decode cX3_whatBars 42 = .ok (.getfield 172, 3) := by decide +kernel
theorem dX3_whatBars_45 : decode cX3_whatBars 45 = .ok (.iconst 4, 1) := by decide +kernel
theorem dX3_whatBars_46 : decode cX3_whatBars 46 = .ok (.if_icmp .ge 5, 3) := by decide +kernel
theorem dX3_whatBars_49 : decode cX3_whatBars 49 = .ok (.iconst 3, 1) := by decide +kernel
theorem dX3_whatBars_50 : decode cX3_whatBars 50 = .ok (.ireturn, 1) := by decide +kernel
theorem dX3_whatBars_51 : decode cX3_whatBars 51 = .ok (.aload_n 0, 1) := by decide +kernel
theorem dX3_whatBars_52 : decode cX3_whatBars 52 = .ok (.getfield 23, 3) := by decide +kernel
theorem dX3_whatBars_55 : decode cX3_whatBars 55 = .ok (.iload_n 1, 1) := by decide +kernel
theorem dX3_whatBars_56 : decode cX3_whatBars 56 = .ok (.aaload, 1) := by decide +kernel
theorem dX3_whatBars_57 : decode cX3_whatBars 57 = .ok (.getfield 158, 3) := by decide +kernel
theorem dX3_whatBars_60 : decode cX3_whatBars 60 = .ok (.invokestatic 161, 3) := by decide +kernel
theorem dX3_whatBars_63 : decode cX3_whatBars 63 = .ok (.iconst 3, 1) := by decide +kernel
theorem dX3_whatBars_64 : decode cX3_whatBars 64 = .ok (.if_icmp .ge 5, 3) := by decide +kernel
theorem dX3_whatBars_67 : decode cX3_whatBars 67 = .ok (.iconst 4, 1) := by decide +kernel
theorem dX3_whatBars_68 : decode cX3_whatBars 68 = .ok (.ireturn, 1) := by decide +kernel
theorem dX3_whatBars_69 : decode cX3_whatBars 69 = .ok (.aload_n 0, 1) := by decide +kernel
theorem dX3_whatBars_70 : decode cX3_whatBars 70 = .ok (.iload_n 1, 1) := by decide +kernel
theorem dX3_whatBars_71 : decode cX3_whatBars 71 = .ok (.invokevirtual 215, 3) := by decide +kernel
theorem dX3_whatBars_74 : decode cX3_whatBars 74 = .ok (.ifCond .ge 5, 3) := by decide +kernel
theorem dX3_whatBars_77 : decode cX3_whatBars 77 = .ok (.iconst 5, 1) := by decide +kernel
theorem dX3_whatBars_78 : decode cX3_whatBars 78 = .ok (.ireturn, 1) := by decide +kernel
theorem dX3_whatBars_79 : decode cX3_whatBars 79 = .ok (.aload_n 0, 1) := by decide +kernel
theorem dX3_whatBars_80 : decode cX3_whatBars 80 = .ok (.aload_n 0, 1) := by decide +kernel
theorem dX3_whatBars_81 : decode cX3_whatBars 81 = .ok (.getfield 23, 3) := by decide +kernel
theorem dX3_whatBars_84 : decode cX3_whatBars 84 = .ok (.iload_n 1, 1) := by decide +kernel
theorem dX3_whatBars_85 : decode cX3_whatBars 85 = .ok (.aaload, 1) := by decide +kernel
theorem dX3_whatBars_86 : decode cX3_whatBars 86 = .ok (.getfield 151, 3) := by decide +kernel
theorem dX3_whatBars_89 : decode cX3_whatBars 89 = .ok (.iload_n 1, 1) := by decide +kernel
theorem dX3_whatBars_90 : decode cX3_whatBars 90 = .ok (.invokevirtual 282, 3) := by decide +kernel
theorem dX3_whatBars_93 : decode cX3_whatBars 93 = .ok (.ifCond .eq 6, 3) := by decide +kernel
theorem dX3_whatBars_96 : decode cX3_whatBars 96 = .ok (.bipush 6, 2) := by decide +kernel
theorem dX3_whatBars_98 : decode cX3_whatBars 98 = .ok (.ireturn, 1) := by decide +kernel
theorem dX3_whatBars_99 : decode cX3_whatBars 99 = .ok (.aload_n 0, 1) := by decide +kernel
theorem dX3_whatBars_100 : decode cX3_whatBars 100 = .ok (.iload_n 1, 1) := by decide +kernel
theorem dX3_whatBars_101 : decode cX3_whatBars 101 = .ok (.invokevirtual 230, 3) := by decide +kernel
theorem dX3_whatBars_104 : decode cX3_whatBars 104 = .ok (.ifCond .eq 6, 3) := by decide +kernel
theorem dX3_whatBars_107 : decode cX3_whatBars 107 = .ok (.bipush 7, 2) := by decide +kernel
theorem dX3_whatBars_109 : decode cX3_whatBars 109 = .ok (.ireturn, 1) := by decide +kernel
theorem dX3_whatBars_110 : decode cX3_whatBars 110 = .ok (.aload_n 0, 1) := by decide +kernel
theorem dX3_whatBars_111 : decode cX3_whatBars 111 = .ok (.iload_n 1, 1) := by decide +kernel
theorem dX3_whatBars_112 : decode cX3_whatBars 112 = .ok (.invokevirtual 234, 3) := by decide +kernel
theorem dX3_whatBars_115 : decode cX3_whatBars 115 = .ok (.ifCond .eq 6, 3) := by decide +kernel
theorem dX3_whatBars_118 : decode cX3_whatBars 118 = .ok (.bipush 8, 2) := by decide +kernel
theorem dX3_whatBars_120 : decode cX3_whatBars 120 = .ok (.ireturn, 1) := by decide +kernel
theorem dX3_whatBars_121 : decode cX3_whatBars 121 = .ok (.aload_n 0, 1) := by decide +kernel
theorem dX3_whatBars_122 : decode cX3_whatBars 122 = .ok (.iload_n 1, 1) := by decide +kernel
theorem dX3_whatBars_123 : decode cX3_whatBars 123 = .ok (.invokevirtual 354, 3) := by decide +kernel
theorem dX3_whatBars_126 : decode cX3_whatBars 126 = .ok (.ifCond .ne 6, 3) := by decide +kernel
theorem dX3_whatBars_129 : decode cX3_whatBars 129 = .ok (.bipush 9, 2) := by decide +kernel
theorem dX3_whatBars_131 : decode cX3_whatBars 131 = .ok (.ireturn, 1) := by decide +kernel
theorem dX3_whatBars_132 : decode cX3_whatBars 132 = .ok (.aload_n 0, 1) := by decide +kernel
theorem dX3_whatBars_133 : decode cX3_whatBars 133 = .ok (.iload_n 1, 1) := by decide +kernel
theorem dX3_whatBars_134 : decode cX3_whatBars 134 = .ok (.invokevirtual 357, 3) := by decide +kernel
theorem dX3_whatBars_137 : decode cX3_whatBars 137 = .ok (.ifCond .eq 6, 3) := by decide +kernel
theorem dX3_whatBars_140 : decode cX3_whatBars 140 = .ok (.bipush 10, 2) := by decide +kernel
theorem dX3_whatBars_142 : decode cX3_whatBars 142 = .ok (.ireturn, 1) := by decide +kernel
theorem dX3_whatBars_143 : decode cX3_whatBars 143 = .ok (.aload_n 0, 1) := by decide +kernel
theorem dX3_whatBars_144 : decode cX3_whatBars 144 = .ok (.iload_n 1, 1) := by decide +kernel
theorem dX3_whatBars_145 : decode cX3_whatBars 145 = .ok (.invokevirtual 360, 3) := by decide +kernel
theorem dX3_whatBars_148 : decode cX3_whatBars 148 = .ok (.ifCond .eq 8, 3) := by decide +kernel
theorem dX3_whatBars_151 : decode cX3_whatBars 151 = .ok (.bipush 11, 2) := by decide +kernel
theorem dX3_whatBars_153 : decode cX3_whatBars 153 = .ok (.goto 4, 3) := by decide +kernel
theorem dX3_whatBars_156 : decode cX3_whatBars 156 = .ok (.iconst 0, 1) := by decide +kernel
theorem dX3_whatBars_157 : decode cX3_whatBars 157 = .ok (.ireturn, 1) := by decide +kernel
theorem dX3_isTooYoung_0 : decode cX3_isTooYoung 0 = .ok (.aload_n 0, 1) := by decide +kernel
theorem dX3_isTooYoung_1 : decode cX3_isTooYoung 1 = .ok (.getfield 11, 3) := by decide +kernel
theorem dX3_isTooYoung_4 : decode cX3_isTooYoung 4 = .ok (.iload_n 1, 1) := by decide +kernel
theorem dX3_isTooYoung_5 : decode cX3_isTooYoung 5 = .ok (.aaload, 1) := by decide +kernel
theorem dX3_isTooYoung_6 : decode cX3_isTooYoung 6 = .ok (.getfield 77, 3) := by decide +kernel
theorem dX3_isTooYoung_9 : decode cX3_isTooYoung 9 = .ok (.ifCond .eq 30, 3) := by decide +kernel
theorem dX3_isTooYoung_12 : decode cX3_isTooYoung 12 = .ok (.aload_n 0, 1) := by decide +kernel
theorem dX3_isTooYoung_13 : decode cX3_isTooYoung 13 = .ok (.getfield 23, 3) := by decide +kernel
theorem dX3_isTooYoung_16 : decode cX3_isTooYoung 16 = .ok (.iload_n 2, 1) := by decide +kernel
theorem dX3_isTooYoung_17 : decode cX3_isTooYoung 17 = .ok (.aaload, 1) := by decide +kernel
theorem dX3_isTooYoung_18 : decode cX3_isTooYoung 18 = .ok (.getfield 117, 3) := by decide +kernel
theorem dX3_isTooYoung_21 : decode cX3_isTooYoung 21 = .ok (.iconst 1, 1) := by decide +kernel
theorem dX3_isTooYoung_22 : decode cX3_isTooYoung 22 = .ok (.if_icmp .eq 13, 3) := by decide +kernel
theorem dX3_isTooYoung_25 : decode cX3_isTooYoung 25 = .ok (.aload_n 0, 1) := by decide +kernel
theorem dX3_isTooYoung_26 : decode cX3_isTooYoung 26 = .ok (.iload_n 2, 1) := by decide +kernel
theorem dX3_isTooYoung_27 : decode cX3_isTooYoung 27 = .ok (.invokevirtual 181, 3) := by decide +kernel
theorem dX3_isTooYoung_30 : decode cX3_isTooYoung 30 = .ok (.bipush 60, 2) := by decide +kernel
theorem dX3_isTooYoung_32 : decode cX3_isTooYoung 32 = .ok (.if_icmp .le 7, 3) := by decide +kernel
theorem dX3_isTooYoung_35 : decode cX3_isTooYoung 35 = .ok (.iconst 1, 1) := by decide +kernel
theorem dX3_isTooYoung_36 : decode cX3_isTooYoung 36 = .ok (.goto 4, 3) := by decide +kernel
theorem dX3_isTooYoung_39 : decode cX3_isTooYoung 39 = .ok (.iconst 0, 1) := by decide +kernel
theorem dX3_isTooYoung_40 : decode cX3_isTooYoung 40 = .ok (.ireturn, 1) := by decide +kernel
theorem dX3_windBars_0 : decode cX3_windBars 0 = .ok (.aload_n 0, 1) := by decide +kernel
theorem dX3_windBars_1 : decode cX3_windBars 1 = .ok (.getfield 47, 3) := by decide +kernel
theorem dX3_windBars_4 : decode cX3_windBars 4 = .ok (.getstatic 363, 3) := by decide +kernel
theorem dX3_windBars_7 : decode cX3_windBars 7 = .ok (.aload_n 0, 1) := by decide +kernel
theorem dX3_windBars_8 : decode cX3_windBars 8 = .ok (.getfield 23, 3) := by decide +kernel
theorem dX3_windBars_11 : decode cX3_windBars 11 = .ok (.iload_n 1, 1) := by decide +kernel
theorem dX3_windBars_12 : decode cX3_windBars 12 = .ok (.aaload, 1) := by decide +kernel
theorem dX3_windBars_13 : decode cX3_windBars 13 = .ok (.getfield 117, 3) := by decide +kernel
theorem dX3_windBars_16 : decode cX3_windBars 16 = .ok (.iaload, 1) := by decide +kernel
theorem dX3_windBars_17 : decode cX3_windBars 17 = .ok (.if_icmp .le 7, 3) := by decide +kernel
theorem dX3_windBars_20 : decode cX3_windBars 20 = .ok (.iconst 1, 1) := by decide +kernel
theorem dX3_windBars_21 : decode cX3_windBars 21 = .ok (.goto 4, 3) := by decide +kernel
theorem dX3_windBars_24 : decode cX3_windBars 24 = .ok (.iconst 0, 1) := by decide +kernel
theorem dX3_windBars_25 : decode cX3_windBars 25 = .ok (.ireturn, 1) := by decide +kernel
theorem dX3_darkBars_0 : decode cX3_darkBars 0 = .ok (.aload_n 0, 1) := by decide +kernel
theorem dX3_darkBars_1 : decode cX3_darkBars 1 = .ok (.getfield 50, 3) := by decide +kernel
theorem dX3_darkBars_4 : decode cX3_darkBars 4 = .ok (.ifCond .ne 20, 3) := by decide +kernel
theorem dX3_darkBars_7 : decode cX3_darkBars 7 = .ok (.aload_n 0, 1) := by decide +kernel
theorem dX3_darkBars_8 : decode cX3_darkBars 8 = .ok (.getfield 23, 3) := by decide +kernel
theorem dX3_darkBars_11 : decode cX3_darkBars 11 = .ok (.iload_n 1, 1) := by decide +kernel
theorem dX3_darkBars_12 : decode cX3_darkBars 12 = .ok (.aaload, 1) := by decide +kernel
theorem dX3_darkBars_13 : decode cX3_darkBars 13 = .ok (.getfield 117, 3) := by decide +kernel
theorem dX3_darkBars_16 : decode cX3_darkBars 16 = .ok (.iconst 1, 1) := by decide +kernel
theorem dX3_darkBars_17 : decode cX3_darkBars 17 = .ok (.if_icmp .eq 7, 3) := by decide +kernel
theorem dX3_darkBars_20 : decode cX3_darkBars 20 = .ok (.iconst 1, 1) := by decide +kernel
theorem dX3_darkBars_21 : decode cX3_darkBars 21 = .ok (.goto 4, 3) := by decide +kernel
theorem dX3_darkBars_24 : decode cX3_darkBars 24 = .ok (.iconst 0, 1) := by decide +kernel
theorem dX3_darkBars_25 : decode cX3_darkBars 25 = .ok (.ireturn, 1) := by decide +kernel
theorem dX3_hasMedicAtHand_0 : decode cX3_hasMedicAtHand 0 = .ok (.aload_n 0, 1) := by decide +kernel
theorem dX3_hasMedicAtHand_1 : decode cX3_hasMedicAtHand 1 = .ok (.iload_n 1, 1) := by decide +kernel
theorem dX3_hasMedicAtHand_2 : decode cX3_hasMedicAtHand 2 = .ok (.invokevirtual 261, 3) := by decide +kernel
theorem dX3_hasMedicAtHand_5 : decode cX3_hasMedicAtHand 5 = .ok (.istore_n 2, 1) := by decide +kernel
theorem dX3_hasMedicAtHand_6 : decode cX3_hasMedicAtHand 6 = .ok (.iconst 0, 1) := by decide +kernel
theorem dX3_hasMedicAtHand_7 : decode cX3_hasMedicAtHand 7 = .ok (.istore_n 3, 1) := by decide +kernel
theorem dX3_hasMedicAtHand_8 : decode cX3_hasMedicAtHand 8 = .ok (.iload_n 3, 1) := by decide +kernel
theorem dX3_hasMedicAtHand_9 : decode cX3_hasMedicAtHand 9 = .ok (.aload_n 0, 1) := by decide +kernel
theorem dX3_hasMedicAtHand_10 : decode cX3_hasMedicAtHand 10 = .ok (.getfield 27, 3) := by decide +kernel
theorem dX3_hasMedicAtHand_13 : decode cX3_hasMedicAtHand 13 = .ok (.if_icmp .ge 58, 3) := by decide +kernel
theorem dX3_hasMedicAtHand_16 : decode cX3_hasMedicAtHand 16 = .ok (.iload_n 3, 1) := by decide +kernel
theorem dX3_hasMedicAtHand_17 : decode cX3_hasMedicAtHand 17 = .ok (.aload_n 0, 1) := by decide +kernel
theorem dX3_hasMedicAtHand_18 : decode cX3_hasMedicAtHand 18 = .ok (.getfield 23, 3) := by decide +kernel
theorem dX3_hasMedicAtHand_21 : decode cX3_hasMedicAtHand 21 = .ok (.iload_n 1, 1) := by decide +kernel
theorem dX3_hasMedicAtHand_22 : decode cX3_hasMedicAtHand 22 = .ok (.aaload, 1) := by decide +kernel
theorem dX3_hasMedicAtHand_23 : decode cX3_hasMedicAtHand 23 = .ok (.getfield 151, 3) := by decide +kernel
theorem dX3_hasMedicAtHand_26 : decode cX3_hasMedicAtHand 26 = .ok (.if_icmp .eq 39, 3) := by decide +kernel
theorem dX3_hasMedicAtHand_29 : decode cX3_hasMedicAtHand 29 = .ok (.aload_n 0, 1) := by decide +kernel
theorem dX3_hasMedicAtHand_30 : decode cX3_hasMedicAtHand 30 = .ok (.iload_n 3, 1) := by decide +kernel
theorem dX3_hasMedicAtHand_31 : decode cX3_hasMedicAtHand 31 = .ok (.iload_n 1, 1) := by decide +kernel
theorem dX3_hasMedicAtHand_32 : decode cX3_hasMedicAtHand 32 = .ok (.invokevirtual 366, 3) := by decide +kernel
theorem dX3_hasMedicAtHand_35 : decode cX3_hasMedicAtHand 35 = .ok (.ifCond .eq 30, 3) := by decide +kernel
theorem dX3_hasMedicAtHand_38 : decode cX3_hasMedicAtHand 38 = .ok (.aload_n 0, 1) := by decide +kernel
theorem dX3_hasMedicAtHand_39 : decode cX3_hasMedicAtHand 39 = .ok (.getfield 11, 3) := by decide +kernel
theorem dX3_hasMedicAtHand_42 : decode cX3_hasMedicAtHand 42 = .ok (.iload_n 3, 1) := by decide +kernel
theorem dX3_hasMedicAtHand_43 : decode cX3_hasMedicAtHand 43 = .ok (.aaload, 1) := by decide +kernel
theorem dX3_hasMedicAtHand_44 : decode cX3_hasMedicAtHand 44 = .ok (.getfield 104, 3) := by decide +kernel
theorem dX3_hasMedicAtHand_47 : decode cX3_hasMedicAtHand 47 = .ok (.aload_n 0, 1) := by decide +kernel
theorem dX3_hasMedicAtHand_48 : decode cX3_hasMedicAtHand 48 = .ok (.getfield 23, 3) := by decide +kernel
theorem dX3_hasMedicAtHand_51 : decode cX3_hasMedicAtHand 51 = .ok (.iload_n 1, 1) := by decide +kernel
theorem dX3_hasMedicAtHand_52 : decode cX3_hasMedicAtHand 52 = .ok (.aaload, 1) := by decide +kernel
theorem dX3_hasMedicAtHand_53 : decode cX3_hasMedicAtHand 53 = .ok (.getfield 154, 3) := by decide +kernel
theorem dX3_hasMedicAtHand_56 : decode cX3_hasMedicAtHand 56 = .ok (.invokestatic 351, 3) := by decide +kernel
theorem dX3_hasMedicAtHand_59 : decode cX3_hasMedicAtHand 59 = .ok (.iload_n 2, 1) := by decide +kernel
theorem dX3_hasMedicAtHand_60 : decode cX3_hasMedicAtHand 60 = .ok (.if_icmp .le 5, 3) := by decide +kernel
theorem dX3_hasMedicAtHand_63 : decode cX3_hasMedicAtHand 63 = .ok (.iconst 1, 1) := by decide +kernel
theorem dX3_hasMedicAtHand_64 : decode cX3_hasMedicAtHand 64 = .ok (.ireturn, 1) := by decide +kernel
theorem dX3_hasMedicAtHand_65 : decode cX3_hasMedicAtHand 65 = .ok (.iinc 3 1, 3) := by decide +kernel
theorem dX3_hasMedicAtHand_68 : decode cX3_hasMedicAtHand 68 = .ok (.goto (-60), 3) := by decide +kernel
theorem dX3_hasMedicAtHand_71 : decode cX3_hasMedicAtHand 71 = .ok (.iconst 0, 1) := by decide +kernel
theorem dX3_hasMedicAtHand_72 : decode cX3_hasMedicAtHand 72 = .ok (.ireturn, 1) := by decide +kernel
theorem dX3_isNearArmed_0 : decode cX3_isNearArmed 0 = .ok (.iconst 0, 1) := by decide +kernel
theorem dX3_isNearArmed_1 : decode cX3_isNearArmed 1 = .ok (.istore_n 2, 1) := by decide +kernel
theorem dX3_isNearArmed_2 : decode cX3_isNearArmed 2 = .ok (.iload_n 2, 1) := by decide +kernel
theorem dX3_isNearArmed_3 : decode cX3_isNearArmed 3 = .ok (.aload_n 0, 1) := by decide +kernel
theorem dX3_isNearArmed_4 : decode cX3_isNearArmed 4 = .ok (.getfield 34, 3) := by decide +kernel
theorem dX3_isNearArmed_7 : decode cX3_isNearArmed 7 = .ok (.if_icmp .ge 63, 3) := by decide +kernel
theorem dX3_isNearArmed_10 : decode cX3_isNearArmed 10 = .ok (.iload_n 2, 1) := by decide +kernel
theorem dX3_isNearArmed_11 : decode cX3_isNearArmed 11 = .ok (.iload_n 1, 1) := by decide +kernel
theorem dX3_isNearArmed_12 : decode cX3_isNearArmed 12 = .ok (.if_icmp .eq 52, 3) := by decide +kernel
theorem dX3_isNearArmed_15 : decode cX3_isNearArmed 15 = .ok (.aload_n 0, 1) := by decide +kernel
theorem dX3_isNearArmed_16 : decode cX3_isNearArmed 16 = .ok (.getfield 23, 3) := by decide +kernel
theorem dX3_isNearArmed_19 : decode cX3_isNearArmed 19 = .ok (.iload_n 2, 1) := by decide +kernel
theorem dX3_isNearArmed_20 : decode cX3_isNearArmed 20 = .ok (.aaload, 1) := by decide +kernel
theorem dX3_isNearArmed_21 : decode cX3_isNearArmed 21 = .ok (.getfield 107, 3) := by decide +kernel
theorem dX3_isNearArmed_24 : decode cX3_isNearArmed 24 = .ok (.ifCond .eq 40, 3) := by decide +kernel
theorem dX3_isNearArmed_27 : decode cX3_isNearArmed 27 = .ok (.aload_n 0, 1) := by decide +kernel
theorem dX3_isNearArmed_28 : decode cX3_isNearArmed 28 = .ok (.getfield 23, 3) := by decide +kernel
theorem dX3_isNearArmed_31 : decode cX3_isNearArmed 31 = .ok (.iload_n 2, 1) := by decide +kernel
theorem dX3_isNearArmed_32 : decode cX3_isNearArmed 32 = .ok (.aaload, 1) := by decide +kernel
theorem dX3_isNearArmed_33 : decode cX3_isNearArmed 33 = .ok (.getfield 154, 3) := by decide +kernel
theorem dX3_isNearArmed_36 : decode cX3_isNearArmed 36 = .ok (.aload_n 0, 1) := by decide +kernel
theorem dX3_isNearArmed_37 : decode cX3_isNearArmed 37 = .ok (.getfield 23, 3) := by decide +kernel
theorem dX3_isNearArmed_40 : decode cX3_isNearArmed 40 = .ok (.iload_n 1, 1) := by decide +kernel
theorem dX3_isNearArmed_41 : decode cX3_isNearArmed 41 = .ok (.aaload, 1) := by decide +kernel
theorem dX3_isNearArmed_42 : decode cX3_isNearArmed 42 = .ok (.getfield 154, 3) := by decide +kernel
theorem dX3_isNearArmed_45 : decode cX3_isNearArmed 45 = .ok (.invokestatic 351, 3) := by decide +kernel
theorem dX3_isNearArmed_48 : decode cX3_isNearArmed 48 = .ok (.aload_n 0, 1) := by decide +kernel
theorem dX3_isNearArmed_49 : decode cX3_isNearArmed 49 = .ok (.iload_n 2, 1) := by decide +kernel
theorem dX3_isNearArmed_50 : decode cX3_isNearArmed 50 = .ok (.invokevirtual 261, 3) := by decide +kernel
theorem dX3_isNearArmed_53 : decode cX3_isNearArmed 53 = .ok (.aload_n 0, 1) := by decide +kernel
theorem dX3_isNearArmed_54 : decode cX3_isNearArmed 54 = .ok (.iload_n 1, 1) := by decide +kernel
theorem dX3_isNearArmed_55 : decode cX3_isNearArmed 55 = .ok (.invokevirtual 261, 3) := by decide +kernel
theorem dX3_isNearArmed_58 : decode cX3_isNearArmed 58 = .ok (.iadd, 1) := by decide +kernel
theorem dX3_isNearArmed_59 : decode cX3_isNearArmed 59 = .ok (.if_icmp .gt 5, 3) := by decide +kernel
theorem dX3_isNearArmed_62 : decode cX3_isNearArmed 62 = .ok (.iconst 1, 1) := by decide +kernel
theorem dX3_isNearArmed_63 : decode cX3_isNearArmed 63 = .ok (.ireturn, 1) := by decide +kernel
theorem dX3_isNearArmed_64 : decode cX3_isNearArmed 64 = .ok (.iinc 2 1, 3) := by decide +kernel
theorem dX3_isNearArmed_67 : decode cX3_isNearArmed 67 = .ok (.goto (-65), 3) := by decide +kernel
theorem dX3_isNearArmed_70 : decode cX3_isNearArmed 70 = .ok (.iconst 0, 1) := by decide +kernel
theorem dX3_isNearArmed_71 : decode cX3_isNearArmed 71 = .ok (.ireturn, 1) := by decide +kernel
theorem dX3_standDown_0 : decode cX3_standDown 0 = .ok (.aload_n 0, 1) := by decide +kernel
theorem dX3_standDown_1 : decode cX3_standDown 1 = .ok (.getfield 23, 3) := by decide +kernel
theorem dX3_standDown_4 : decode cX3_standDown 4 = .ok (.iload_n 1, 1) := by decide +kernel
theorem dX3_standDown_5 : decode cX3_standDown 5 = .ok (.aaload, 1) := by decide +kernel
theorem dX3_standDown_6 : decode cX3_standDown 6 = .ok (.getfield 107, 3) := by decide +kernel
theorem dX3_standDown_9 : decode cX3_standDown 9 = .ok (.ifCond .eq 23, 3) := by decide +kernel
theorem dX3_standDown_12 : decode cX3_standDown 12 = .ok (.aload_n 0, 1) := by decide +kernel
theorem dX3_standDown_13 : decode cX3_standDown 13 = .ok (.getfield 23, 3) := by decide +kernel
theorem dX3_standDown_16 : decode cX3_standDown 16 = .ok (.iload_n 1, 1) := by decide +kernel
theorem dX3_standDown_17 : decode cX3_standDown 17 = .ok (.aaload, 1) := by decide +kernel
theorem dX3_standDown_18 : decode cX3_standDown 18 = .ok (.iconst 0, 1) := by decide +kernel
theorem dX3_standDown_19 : decode cX3_standDown 19 = .ok (.putfield 107, 3) := by decide +kernel
theorem dX3_standDown_22 : decode cX3_standDown 22 = .ok (.aload_n 0, 1) := by decide +kernel
theorem dX3_standDown_23 : decode cX3_standDown 23 = .ok (.dup, 1) := by decide +kernel
theorem dX3_standDown_24 : decode cX3_standDown 24 = .ok (.getfield 60, 3) := by decide +kernel
theorem dX3_standDown_27 : decode cX3_standDown 27 = .ok (.iconst 1, 1) := by decide +kernel
theorem dX3_standDown_28 : decode cX3_standDown 28 = .ok (.iadd, 1) := by decide +kernel
theorem dX3_standDown_29 : decode cX3_standDown 29 = .ok (.putfield 60, 3) := by decide +kernel
theorem dX3_standDown_32 : decode cX3_standDown 32 = .ok (.return_, 1) := by decide +kernel
theorem dX3_standDownOccupied_0 : decode cX3_standDownOccupied 0 = .ok (.iconst 0, 1) := by decide +kernel
theorem dX3_standDownOccupied_1 : decode cX3_standDownOccupied 1 = .ok (.istore_n 1, 1) := by decide +kernel
theorem dX3_standDownOccupied_2 : decode cX3_standDownOccupied 2 = .ok (.iload_n 1, 1) := by decide +kernel
theorem dX3_standDownOccupied_3 : decode cX3_standDownOccupied 3 = .ok (.aload_n 0, 1) := by decide +kernel
theorem dX3_standDownOccupied_4 : decode cX3_standDownOccupied 4 = .ok (.getfield 34, 3) := by decide +kernel
theorem dX3_standDownOccupied_7 : decode cX3_standDownOccupied 7 = .ok (.if_icmp .ge 22, 3) := by decide +kernel
theorem dX3_standDownOccupied_10 : decode cX3_standDownOccupied 10 = .ok (.aload_n 0, 1) := by decide +kernel
theorem dX3_standDownOccupied_11 : decode cX3_standDownOccupied 11 = .ok (.iload_n 1, 1) := by decide +kernel
theorem dX3_standDownOccupied_12 : decode cX3_standDownOccupied 12 = .ok (.invokevirtual 357, 3) := by decide +kernel
theorem dX3_standDownOccupied_15 : decode cX3_standDownOccupied 15 = .ok (.ifCond .eq 8, 3) := by decide +kernel
theorem dX3_standDownOccupied_18 : decode cX3_standDownOccupied 18 = .ok (.aload_n 0, 1) := by decide +kernel
theorem dX3_standDownOccupied_19 : decode cX3_standDownOccupied 19 = .ok (.iload_n 1, 1) := by decide +kernel
theorem dX3_standDownOccupied_20 : decode cX3_standDownOccupied 20 = .ok (.invokevirtual 114, 3) := by decide +kernel
theorem dX3_standDownOccupied_23 : decode cX3_standDownOccupied 23 = .ok (.iinc 1 1, 3) := by decide +kernel
theorem dX3_standDownOccupied_26 : decode cX3_standDownOccupied 26 = .ok (.goto (-24), 3) := by decide +kernel
theorem dX3_standDownOccupied_29 : decode cX3_standDownOccupied 29 = .ok (.return_, 1) := by decide +kernel
theorem dX3_loseSignatures_0 : decode cX3_loseSignatures 0 = .ok (.aload_n 0, 1) := by decide +kernel
theorem dX3_loseSignatures_1 : decode cX3_loseSignatures 1 = .ok (.getfield 23, 3) := by decide +kernel
theorem dX3_loseSignatures_4 : decode cX3_loseSignatures 4 = .ok (.iload_n 1, 1) := by decide +kernel
theorem dX3_loseSignatures_5 : decode cX3_loseSignatures 5 = .ok (.aaload, 1) := by decide +kernel
theorem dX3_loseSignatures_6 : decode cX3_loseSignatures 6 = .ok (.iconst 0, 1) := by decide +kernel
theorem dX3_loseSignatures_7 : decode cX3_loseSignatures 7 = .ok (.putfield 158, 3) := by decide +kernel
theorem dX3_loseSignatures_10 : decode cX3_loseSignatures 10 = .ok (.aload_n 0, 1) := by decide +kernel
theorem dX3_loseSignatures_11 : decode cX3_loseSignatures 11 = .ok (.iload_n 1, 1) := by decide +kernel
theorem dX3_loseSignatures_12 : decode cX3_loseSignatures 12 = .ok (.invokevirtual 114, 3) := by decide +kernel
theorem dX3_loseSignatures_15 : decode cX3_loseSignatures 15 = .ok (.return_, 1) := by decide +kernel
theorem dX3_becomeChanged_0 : decode cX3_becomeChanged 0 = .ok (.aload_n 0, 1) := by decide +kernel
theorem dX3_becomeChanged_1 : decode cX3_becomeChanged 1 = .ok (.iload_n 1, 1) := by decide +kernel
theorem dX3_becomeChanged_2 : decode cX3_becomeChanged 2 = .ok (.invokevirtual 187, 3) := by decide +kernel
theorem dX3_becomeChanged_5 : decode cX3_becomeChanged 5 = .ok (.aload_n 0, 1) := by decide +kernel
theorem dX3_becomeChanged_6 : decode cX3_becomeChanged 6 = .ok (.getfield 23, 3) := by decide +kernel
theorem dX3_becomeChanged_9 : decode cX3_becomeChanged 9 = .ok (.iload_n 1, 1) := by decide +kernel
theorem dX3_becomeChanged_10 : decode cX3_becomeChanged 10 = .ok (.aaload, 1) := by decide +kernel
theorem dX3_becomeChanged_11 : decode cX3_becomeChanged 11 = .ok (.iconst 2, 1) := by decide +kernel
theorem dX3_becomeChanged_12 : decode cX3_becomeChanged 12 = .ok (.aload_n 0, 1) := by decide +kernel
theorem dX3_becomeChanged_13 : decode cX3_becomeChanged 13 = .ok (.getfield 23, 3) := by decide +kernel
theorem dX3_becomeChanged_16 : decode cX3_becomeChanged 16 = .ok (.iload_n 1, 1) := by decide +kernel
theorem dX3_becomeChanged_17 : decode cX3_becomeChanged 17 = .ok (.aaload, 1) := by decide +kernel
theorem dX3_becomeChanged_18 : decode cX3_becomeChanged 18 = .ok (.getfield 172, 3) := by decide +kernel
theorem dX3_becomeChanged_21 : decode cX3_becomeChanged 21 = .ok (.invokestatic 175, 3) := by decide +kernel
theorem dX3_becomeChanged_24 : decode cX3_becomeChanged 24 = .ok (.putfield 172, 3) := by decide +kernel
theorem dX3_becomeChanged_27 : decode cX3_becomeChanged 27 = .ok (.return_, 1) := by decide +kernel
theorem dX3_addMiss_0 : decode cX3_addMiss 0 = .ok (.aload_n 0, 1) := by decide +kernel
theorem dX3_addMiss_1 : decode cX3_addMiss 1 = .ok (.getfield 41, 3) := by decide +kernel
theorem dX3_addMiss_4 : decode cX3_addMiss 4 = .ok (.iload_n 1, 1) := by decide +kernel
theorem dX3_addMiss_5 : decode cX3_addMiss 5 = .ok (.dup2, 1) := by decide +kernel
theorem dX3_addMiss_6 : decode cX3_addMiss 6 = .ok (.iaload, 1) := by decide +kernel
theorem dX3_addMiss_7 : decode cX3_addMiss 7 = .ok (.iconst 1, 1) := by decide +kernel
theorem dX3_addMiss_8 : decode cX3_addMiss 8 = .ok (.iadd, 1) := by decide +kernel
theorem dX3_addMiss_9 : decode cX3_addMiss 9 = .ok (.iastore, 1) := by decide +kernel
theorem dX3_addMiss_10 : decode cX3_addMiss 10 = .ok (.aload_n 0, 1) := by decide +kernel
theorem dX3_addMiss_11 : decode cX3_addMiss 11 = .ok (.getfield 41, 3) := by decide +kernel
theorem dX3_addMiss_14 : decode cX3_addMiss 14 = .ok (.iload_n 1, 1) := by decide +kernel
theorem dX3_addMiss_15 : decode cX3_addMiss 15 = .ok (.iaload, 1) := by decide +kernel
theorem dX3_addMiss_16 : decode cX3_addMiss 16 = .ok (.iconst 3, 1) := by decide +kernel
theorem dX3_addMiss_17 : decode cX3_addMiss 17 = .ok (.irem, 1) := by decide +kernel
theorem dX3_addMiss_18 : decode cX3_addMiss 18 = .ok (.ifCond .eq 4, 3) := by decide +kernel
theorem dX3_addMiss_21 : decode cX3_addMiss 21 = .ok (.return_, 1) := by decide +kernel
theorem dX3_addMiss_22 : decode cX3_addMiss 22 = .ok (.aload_n 0, 1) := by decide +kernel
theorem dX3_addMiss_23 : decode cX3_addMiss 23 = .ok (.getfield 37, 3) := by decide +kernel
theorem dX3_addMiss_26 : decode cX3_addMiss 26 = .ok (.iload_n 1, 1) := by decide +kernel
theorem dX3_addMiss_27 : decode cX3_addMiss 27 = .ok (.dup2, 1) := by decide +kernel
theorem dX3_addMiss_28 : decode cX3_addMiss 28 = .ok (.iaload, 1) := by decide +kernel
theorem dX3_addMiss_29 : decode cX3_addMiss 29 = .ok (.iconst 1, 1) := by decide +kernel
theorem dX3_addMiss_30 : decode cX3_addMiss 30 = .ok (.iadd, 1) := by decide +kernel
theorem dX3_addMiss_31 : decode cX3_addMiss 31 = .ok (.iastore, 1) := by decide +kernel
theorem dX3_addMiss_32 : decode cX3_addMiss 32 = .ok (.iconst 0, 1) := by decide +kernel
theorem dX3_addMiss_33 : decode cX3_addMiss 33 = .ok (.istore_n 2, 1) := by decide +kernel
theorem dX3_addMiss_34 : decode cX3_addMiss 34 = .ok (.iload_n 2, 1) := by decide +kernel
theorem dX3_addMiss_35 : decode cX3_addMiss 35 = .ok (.aload_n 0, 1) := by decide +kernel
theorem dX3_addMiss_36 : decode cX3_addMiss 36 = .ok (.getfield 34, 3) := by decide +kernel
theorem dX3_addMiss_39 : decode cX3_addMiss 39 = .ok (.if_icmp .ge 27, 3) := by decide +kernel
theorem dX3_addMiss_42 : decode cX3_addMiss 42 = .ok (.aload_n 0, 1) := by decide +kernel
theorem dX3_addMiss_43 : decode cX3_addMiss 43 = .ok (.getfield 23, 3) := by decide +kernel
theorem dX3_addMiss_46 : decode cX3_addMiss 46 = .ok (.iload_n 2, 1) := by decide +kernel
theorem dX3_addMiss_47 : decode cX3_addMiss 47 = .ok (.aaload, 1) := by decide +kernel
theorem dX3_addMiss_48 : decode cX3_addMiss 48 = .ok (.getfield 117, 3) := by decide +kernel
theorem dX3_addMiss_51 : decode cX3_addMiss 51 = .ok (.iload_n 1, 1) := by decide +kernel
theorem dX3_addMiss_52 : decode cX3_addMiss 52 = .ok (.if_icmp .ne 8, 3) := by decide +kernel
theorem dX3_addMiss_55 : decode cX3_addMiss 55 = .ok (.aload_n 0, 1) := by decide +kernel
theorem dX3_addMiss_56 : decode cX3_addMiss 56 = .ok (.iload_n 2, 1) := by decide +kernel
theorem dX3_addMiss_57 : decode cX3_addMiss 57 = .ok (.invokevirtual 187, 3) := by decide +kernel
theorem dX3_addMiss_60 : decode cX3_addMiss 60 = .ok (.iinc 2 1, 3) := by decide +kernel
theorem dX3_addMiss_63 : decode cX3_addMiss 63 = .ok (.goto (-29), 3) := by decide +kernel
theorem dX3_addMiss_66 : decode cX3_addMiss 66 = .ok (.return_, 1) := by decide +kernel
theorem dX3_tire_0 : decode cX3_tire 0 = .ok (.aload_n 0, 1) := by decide +kernel
theorem dX3_tire_1 : decode cX3_tire 1 = .ok (.bipush 100, 2) := by decide +kernel
theorem dX3_tire_3 : decode cX3_tire 3 = .ok (.aload_n 0, 1) := by decide +kernel
theorem dX3_tire_4 : decode cX3_tire 4 = .ok (.getfield 246, 3) := by decide +kernel
theorem dX3_tire_7 : decode cX3_tire 7 = .ok (.iload_n 1, 1) := by decide +kernel
theorem dX3_tire_8 : decode cX3_tire 8 = .ok (.iadd, 1) := by decide +kernel
theorem dX3_tire_9 : decode cX3_tire 9 = .ok (.invokestatic 175, 3) := by decide +kernel
theorem dX3_tire_12 : decode cX3_tire 12 = .ok (.putfield 246, 3) := by decide +kernel
theorem dX3_tire_15 : decode cX3_tire 15 = .ok (.return_, 1) := by decide +kernel
theorem dX3_hurt_0 : decode cX3_hurt 0 = .ok (.aload_n 0, 1) := by decide +kernel
theorem dX3_hurt_1 : decode cX3_hurt 1 = .ok (.getfield 11, 3) := by decide +kernel
theorem dX3_hurt_4 : decode cX3_hurt 4 = .ok (.iload_n 1, 1) := by decide +kernel
theorem dX3_hurt_5 : decode cX3_hurt 5 = .ok (.aaload, 1) := by decide +kernel
theorem dX3_hurt_6 : decode cX3_hurt 6 = .ok (.iconst 1, 1) := by decide +kernel
theorem dX3_hurt_7 : decode cX3_hurt 7 = .ok (.putfield 167, 3) := by decide +kernel
theorem dX3_hurt_10 : decode cX3_hurt 10 = .ok (.aload_n 0, 1) := by decide +kernel
theorem dX3_hurt_11 : decode cX3_hurt 11 = .ok (.getfield 11, 3) := by decide +kernel
theorem dX3_hurt_14 : decode cX3_hurt 14 = .ok (.iload_n 1, 1) := by decide +kernel
theorem dX3_hurt_15 : decode cX3_hurt 15 = .ok (.aaload, 1) := by decide +kernel
theorem dX3_hurt_16 : decode cX3_hurt 16 = .ok (.aload_n 0, 1) := by decide +kernel
theorem dX3_hurt_17 : decode cX3_hurt 17 = .ok (.getfield 44, 3) := by decide +kernel
theorem dX3_hurt_20 : decode cX3_hurt 20 = .ok (.putfield 369, 3) := by decide +kernel
theorem dX3_hurt_23 : decode cX3_hurt 23 = .ok (.aload_n 0, 1) := by decide +kernel
theorem dX3_hurt_24 : decode cX3_hurt 24 = .ok (.dup, 1) := by decide +kernel
theorem dX3_hurt_25 : decode cX3_hurt 25 = .ok (.getfield 54, 3) := by decide +kernel
theorem dX3_hurt_28 : decode cX3_hurt 28 = .ok (.iconst 1, 1) := by decide +kernel
theorem dX3_hurt_29 : decode cX3_hurt 29 = .ok (.iadd, 1) := by decide +kernel
theorem dX3_hurt_30 : decode cX3_hurt 30 = .ok (.putfield 54, 3) := by decide +kernel
theorem dX3_hurt_33 : decode cX3_hurt 33 = .ok (.iconst 0, 1) := by decide +kernel
theorem dX3_hurt_34 : decode cX3_hurt 34 = .ok (.istore_n 2, 1) := by decide +kernel
theorem dX3_hurt_35 : decode cX3_hurt 35 = .ok (.iload_n 2, 1) := by decide +kernel
theorem dX3_hurt_36 : decode cX3_hurt 36 = .ok (.aload_n 0, 1) := by decide +kernel
theorem dX3_hurt_37 : decode cX3_hurt 37 = .ok (.getfield 34, 3) := by decide +kernel
theorem dX3_hurt_40 : decode cX3_hurt 40 = .ok (.if_icmp .ge 27, 3) := by decide +kernel
theorem dX3_hurt_43 : decode cX3_hurt 43 = .ok (.aload_n 0, 1) := by decide +kernel
theorem dX3_hurt_44 : decode cX3_hurt 44 = .ok (.getfield 23, 3) := by decide +kernel
theorem dX3_hurt_47 : decode cX3_hurt 47 = .ok (.iload_n 2, 1) := by decide +kernel
theorem dX3_hurt_48 : decode cX3_hurt 48 = .ok (.aaload, 1) := by decide +kernel
theorem dX3_hurt_49 : decode cX3_hurt 49 = .ok (.getfield 151, 3) := by decide +kernel
theorem dX3_hurt_52 : decode cX3_hurt 52 = .ok (.iload_n 1, 1) := by decide +kernel
theorem dX3_hurt_53 : decode cX3_hurt 53 = .ok (.if_icmp .ne 8, 3) := by decide +kernel
theorem dX3_hurt_56 : decode cX3_hurt 56 = .ok (.aload_n 0, 1) := by decide +kernel
theorem dX3_hurt_57 : decode cX3_hurt 57 = .ok (.iload_n 2, 1) := by decide +kernel
theorem dX3_hurt_58 : decode cX3_hurt 58 = .ok (.invokevirtual 114, 3) := by decide +kernel
theorem dX3_hurt_61 : decode cX3_hurt 61 = .ok (.iinc 2 1, 3) := by decide +kernel
theorem dX3_hurt_64 : decode cX3_hurt 64 = .ok (.goto (-29), 3) := by decide +kernel
theorem dX3_hurt_67 : decode cX3_hurt 67 = .ok (.return_, 1) := by decide +kernel
theorem dX3_useKitOf_0 : decode cX3_useKitOf 0 = .ok (.iconst 0, 1) := by decide +kernel
theorem dX3_useKitOf_1 : decode cX3_useKitOf 1 = .ok (.istore_n 2, 1) := by decide +kernel
theorem dX3_useKitOf_2 : decode cX3_useKitOf 2 = .ok (.iload_n 2, 1) := by decide +kernel
theorem dX3_useKitOf_3 : decode cX3_useKitOf 3 = .ok (.aload_n 0, 1) := by decide +kernel
theorem dX3_useKitOf_4 : decode cX3_useKitOf 4 = .ok (.getfield 31, 3) := by decide +kernel
theorem dX3_useKitOf_7 : decode cX3_useKitOf 7 = .ok (.if_icmp .ge 33, 3) := by decide +kernel
theorem dX3_useKitOf_10 : decode cX3_useKitOf 10 = .ok (.aload_n 0, 1) := by decide +kernel
theorem dX3_useKitOf_11 : decode cX3_useKitOf 11 = .ok (.iload_n 2, 1) := by decide +kernel
theorem dX3_useKitOf_12 : decode cX3_useKitOf 12 = .ok (.iload_n 1, 1) := by decide +kernel
theorem dX3_useKitOf_13 : decode cX3_useKitOf 13 = .ok (.invokevirtual 345, 3) := by decide +kernel
theorem dX3_useKitOf_16 : decode cX3_useKitOf 16 = .ok (.ifCond .eq 18, 3) := by decide +kernel
theorem dX3_useKitOf_19 : decode cX3_useKitOf 19 = .ok (.aload_n 0, 1) := by decide +kernel
theorem dX3_useKitOf_20 : decode cX3_useKitOf 20 = .ok (.getfield 17, 3) := by decide +kernel
theorem dX3_useKitOf_23 : decode cX3_useKitOf 23 = .ok (.iload_n 2, 1) := by decide +kernel
theorem dX3_useKitOf_24 : decode cX3_useKitOf 24 = .ok (.aaload, 1) := by decide +kernel
theorem dX3_useKitOf_25 : decode cX3_useKitOf 25 = .ok (.dup, 1) := by decide +kernel
theorem dX3_useKitOf_26 : decode cX3_useKitOf 26 = .ok (.getfield 129, 3) := by decide +kernel
theorem dX3_useKitOf_29 : decode cX3_useKitOf 29 = .ok (.iconst 1, 1) := by decide +kernel
theorem dX3_useKitOf_30 : decode cX3_useKitOf 30 = .ok (.isub, 1) := by decide +kernel
theorem dX3_useKitOf_31 : decode cX3_useKitOf 31 = .ok (.putfield 129, 3) := by decide +kernel
theorem dX3_useKitOf_34 : decode cX3_useKitOf 34 = .ok (.iinc 2 1, 3) := by decide +kernel
theorem dX3_useKitOf_37 : decode cX3_useKitOf 37 = .ok (.goto (-35), 3) := by decide +kernel
theorem dX3_useKitOf_40 : decode cX3_useKitOf 40 = .ok (.return_, 1) := by decide +kernel
theorem dX3_payFor_0 : decode cX3_payFor 0 = .ok (.aload_n 0, 1) := by decide +kernel
theorem dX3_payFor_1 : decode cX3_payFor 1 = .ok (.iload_n 1, 1) := by decide +kernel
theorem dX3_payFor_2 : decode cX3_payFor 2 = .ok (.invokevirtual 181, 3) := by decide +kernel
theorem dX3_payFor_5 : decode cX3_payFor 5 = .ok (.istore_n 2, 1) := by decide +kernel
theorem dX3_payFor_6 : decode cX3_payFor 6 = .ok (.aload_n 0, 1) := by decide +kernel
theorem dX3_payFor_7 : decode cX3_payFor 7 = .ok (.getfield 11, 3) := by decide +kernel
theorem dX3_payFor_10 : decode cX3_payFor 10 = .ok (.aload_n 0, 1) := by decide +kernel
theorem dX3_payFor_11 : decode cX3_payFor 11 = .ok (.getfield 23, 3) := by decide +kernel
theorem dX3_payFor_14 : decode cX3_payFor 14 = .ok (.iload_n 1, 1) := by decide +kernel
theorem dX3_payFor_15 : decode cX3_payFor 15 = .ok (.aaload, 1) := by decide +kernel
theorem dX3_payFor_16 : decode cX3_payFor 16 = .ok (.getfield 151, 3) := by decide +kernel
theorem dX3_payFor_19 : decode cX3_payFor 19 = .ok (.aaload, 1) := by decide +kernel
theorem dX3_payFor_20 : decode cX3_payFor 20 = .ok (.astore_n 3, 1) := by decide +kernel
theorem dX3_payFor_21 : decode cX3_payFor 21 = .ok (.aload_n 3, 1) := by decide +kernel
theorem dX3_payFor_22 : decode cX3_payFor 22 = .ok (.iload_n 2, 1) := by decide +kernel
theorem dX3_payFor_23 : decode cX3_payFor 23 = .ok (.bipush 10, 2) := by decide +kernel
theorem dX3_payFor_25 : decode cX3_payFor 25 = .ok (.idiv, 1) := by decide +kernel
theorem dX3_payFor_26 : decode cX3_payFor 26 = .ok (.invokestatic 190, 3) := by decide +kernel
theorem dX3_payFor_29 : decode cX3_payFor 29 = .ok (.aload_n 3, 1) := by decide +kernel
theorem dX3_payFor_30 : decode cX3_payFor 30 = .ok (.dup, 1) := by decide +kernel
theorem dX3_payFor_31 : decode cX3_payFor 31 = .ok (.getfield 249, 3) := by decide +kernel
theorem dX3_payFor_34 : decode cX3_payFor 34 = .ok (.bipush 50, 2) := by decide +kernel
theorem dX3_payFor_36 : decode cX3_payFor 36 = .ok (.iload_n 2, 1) := by decide +kernel
theorem dX3_payFor_37 : decode cX3_payFor 37 = .ok (.iadd, 1) := by decide +kernel
theorem dX3_payFor_38 : decode cX3_payFor 38 = .ok (.iadd, 1) := by decide +kernel
theorem dX3_payFor_39 : decode cX3_payFor 39 = .ok (.putfield 249, 3) := by decide +kernel
theorem dX3_payFor_42 : decode cX3_payFor 42 = .ok (.aload_n 3, 1) := by decide +kernel
theorem dX3_payFor_43 : decode cX3_payFor 43 = .ok (.dup, 1) := by decide +kernel
theorem dX3_payFor_44 : decode cX3_payFor 44 = .ok (.getfield 252, 3) := by decide +kernel
theorem dX3_payFor_47 : decode cX3_payFor 47 = .ok (.iconst 1, 1) := by decide +kernel
theorem dX3_payFor_48 : decode cX3_payFor 48 = .ok (.iadd, 1) := by decide +kernel
theorem dX3_payFor_49 : decode cX3_payFor 49 = .ok (.putfield 252, 3) := by decide +kernel
theorem dX3_payFor_52 : decode cX3_payFor 52 = .ok (.iconst 0, 1) := by decide +kernel
theorem dX3_payFor_53 : decode cX3_payFor 53 = .ok (.istore 4, 2) := by decide +kernel
theorem dX3_payFor_55 : decode cX3_payFor 55 = .ok (.iload 4, 2) := by decide +kernel
theorem dX3_payFor_57 : decode cX3_payFor 57 = .ok (.aload_n 0, 1) := by decide +kernel
theorem dX3_payFor_58 : decode cX3_payFor 58 = .ok (.getfield 27, 3) := by decide +kernel
theorem dX3_payFor_61 : decode cX3_payFor 61 = .ok (.if_icmp .ge 36, 3) := by decide +kernel
theorem dX3_payFor_64 : decode cX3_payFor 64 = .ok (.aload_n 0, 1) := by decide +kernel
theorem dX3_payFor_65 : decode cX3_payFor 65 = .ok (.iload 4, 2) := by decide +kernel
theorem dX3_payFor_67 : decode cX3_payFor 67 = .ok (.iload_n 1, 1) := by decide +kernel
theorem dX3_payFor_68 : decode cX3_payFor 68 = .ok (.invokevirtual 366, 3) := by decide +kernel
theorem dX3_payFor_71 : decode cX3_payFor 71 = .ok (.ifCond .eq 20, 3) := by decide +kernel
theorem dX3_payFor_74 : decode cX3_payFor 74 = .ok (.aload_n 0, 1) := by decide +kernel
theorem dX3_payFor_75 : decode cX3_payFor 75 = .ok (.getfield 11, 3) := by decide +kernel
theorem dX3_payFor_78 : decode cX3_payFor 78 = .ok (.iload 4, 2) := by decide +kernel
theorem dX3_payFor_80 : decode cX3_payFor 80 = .ok (.aaload, 1) := by decide +kernel
theorem dX3_payFor_81 : decode cX3_payFor 81 = .ok (.dup, 1) := by decide +kernel
theorem dX3_payFor_82 : decode cX3_payFor 82 = .ok (.getfield 249, 3) := by decide +kernel
theorem dX3_payFor_85 : decode cX3_payFor 85 = .ok (.bipush 20, 2) := by decide +kernel
theorem dX3_payFor_87 : decode cX3_payFor 87 = .ok (.iadd, 1) := by decide +kernel
theorem dX3_payFor_88 : decode cX3_payFor 88 = .ok (.putfield 249, 3) := by decide +kernel
theorem dX3_payFor_91 : decode cX3_payFor 91 = .ok (.iinc 4 1, 3) := by decide +kernel
theorem dX3_payFor_94 : decode cX3_payFor 94 = .ok (.goto (-39), 3) := by decide +kernel
theorem dX3_payFor_97 : decode cX3_payFor 97 = .ok (.return_, 1) := by decide +kernel
theorem dX3_passOneDay_0 : decode cX3_passOneDay 0 = .ok (.aload_n 0, 1) := by decide +kernel
theorem dX3_passOneDay_1 : decode cX3_passOneDay 1 = .ok (.dup, 1) := by decide +kernel
theorem dX3_passOneDay_2 : decode cX3_passOneDay 2 = .ok (.getfield 44, 3) := by decide +kernel
theorem dX3_passOneDay_5 : decode cX3_passOneDay 5 = .ok (.iconst 1, 1) := by decide +kernel
theorem dX3_passOneDay_6 : decode cX3_passOneDay 6 = .ok (.iadd, 1) := by decide +kernel
theorem dX3_passOneDay_7 : decode cX3_passOneDay 7 = .ok (.putfield 44, 3) := by decide +kernel
theorem dX3_passOneDay_10 : decode cX3_passOneDay 10 = .ok (.iconst 0, 1) := by decide +kernel
theorem dX3_passOneDay_11 : decode cX3_passOneDay 11 = .ok (.istore_n 1, 1) := by decide +kernel
theorem dX3_passOneDay_12 : decode cX3_passOneDay 12 = .ok (.iload_n 1, 1) := by decide +kernel
theorem dX3_passOneDay_13 : decode cX3_passOneDay 13 = .ok (.aload_n 0, 1) := by decide +kernel
theorem dX3_passOneDay_14 : decode cX3_passOneDay 14 = .ok (.getfield 27, 3) := by decide +kernel
theorem dX3_passOneDay_17 : decode cX3_passOneDay 17 = .ok (.if_icmp .ge 56, 3) := by decide +kernel
theorem dX3_passOneDay_20 : decode cX3_passOneDay 20 = .ok (.aload_n 0, 1) := by decide +kernel
theorem dX3_passOneDay_21 : decode cX3_passOneDay 21 = .ok (.getfield 11, 3) := by decide +kernel
theorem dX3_passOneDay_24 : decode cX3_passOneDay 24 = .ok (.iload_n 1, 1) := by decide +kernel
theorem dX3_passOneDay_25 : decode cX3_passOneDay 25 = .ok (.aaload, 1) := by decide +kernel
theorem dX3_passOneDay_26 : decode cX3_passOneDay 26 = .ok (.astore_n 2, 1) := by decide +kernel
theorem dX3_passOneDay_27 : decode cX3_passOneDay 27 = .ok (.aload_n 2, 1) := by decide +kernel
theorem dX3_passOneDay_28 : decode cX3_passOneDay 28 = .ok (.iconst 0, 1) := by decide +kernel
theorem dX3_passOneDay_29 : decode cX3_passOneDay 29 = .ok (.aload_n 2, 1) := by decide +kernel
theorem dX3_passOneDay_30 : decode cX3_passOneDay 30 = .ok (.getfield 246, 3) := by decide +kernel
theorem dX3_passOneDay_33 : decode cX3_passOneDay 33 = .ok (.bipush 30, 2) := by decide +kernel
theorem dX3_passOneDay_35 : decode cX3_passOneDay 35 = .ok (.isub, 1) := by decide +kernel
theorem dX3_passOneDay_36 : decode cX3_passOneDay 36 = .ok (.invokestatic 372, 3) := by decide +kernel
theorem dX3_passOneDay_39 : decode cX3_passOneDay 39 = .ok (.putfield 246, 3) := by decide +kernel
theorem dX3_passOneDay_42 : decode cX3_passOneDay 42 = .ok (.aload_n 2, 1) := by decide +kernel
theorem dX3_passOneDay_43 : decode cX3_passOneDay 43 = .ok (.getfield 167, 3) := by decide +kernel
theorem dX3_passOneDay_46 : decode cX3_passOneDay 46 = .ok (.ifCond .eq 21, 3) := by decide +kernel
theorem dX3_passOneDay_49 : decode cX3_passOneDay 49 = .ok (.aload_n 0, 1) := by decide +kernel
theorem dX3_passOneDay_50 : decode cX3_passOneDay 50 = .ok (.getfield 44, 3) := by decide +kernel
theorem dX3_passOneDay_53 : decode cX3_passOneDay 53 = .ok (.aload_n 2, 1) := by decide +kernel
theorem dX3_passOneDay_54 : decode cX3_passOneDay 54 = .ok (.getfield 369, 3) := by decide +kernel
theorem dX3_passOneDay_57 : decode cX3_passOneDay 57 = .ok (.isub, 1) := by decide +kernel
theorem dX3_passOneDay_58 : decode cX3_passOneDay 58 = .ok (.iconst 5, 1) := by decide +kernel
theorem dX3_passOneDay_59 : decode cX3_passOneDay 59 = .ok (.if_icmp .lt 8, 3) := by decide +kernel
theorem dX3_passOneDay_62 : decode cX3_passOneDay 62 = .ok (.aload_n 2, 1) := by decide +kernel
theorem dX3_passOneDay_63 : decode cX3_passOneDay 63 = .ok (.iconst 0, 1) := by decide +kernel
theorem dX3_passOneDay_64 : decode cX3_passOneDay 64 = .ok (.putfield 167, 3) := by decide +kernel
theorem dX3_passOneDay_67 : decode cX3_passOneDay 67 = .ok (.iinc 1 1, 3) := by decide +kernel
theorem dX3_passOneDay_70 : decode cX3_passOneDay 70 = .ok (.goto (-58), 3) := by decide +kernel
theorem dX3_passOneDay_73 : decode cX3_passOneDay 73 = .ok (.iconst 0, 1) := by decide +kernel
theorem dX3_passOneDay_74 : decode cX3_passOneDay 74 = .ok (.istore_n 1, 1) := by decide +kernel
theorem dX3_passOneDay_75 : decode cX3_passOneDay 75 = .ok (.iload_n 1, 1) := by decide +kernel
theorem dX3_passOneDay_76 : decode cX3_passOneDay 76 = .ok (.iconst 4, 1) := by decide +kernel
theorem dX3_passOneDay_77 : decode cX3_passOneDay 77 = .ok (.if_icmp .ge 27, 3) := by decide +kernel
theorem dX3_passOneDay_80 : decode cX3_passOneDay 80 = .ok (.aload_n 0, 1) := by decide +kernel
theorem dX3_passOneDay_81 : decode cX3_passOneDay 81 = .ok (.getfield 37, 3) := by decide +kernel
theorem dX3_passOneDay_84 : decode cX3_passOneDay 84 = .ok (.iload_n 1, 1) := by decide +kernel
theorem dX3_passOneDay_85 : decode cX3_passOneDay 85 = .ok (.iconst 0, 1) := by decide +kernel
theorem dX3_passOneDay_86 : decode cX3_passOneDay 86 = .ok (.aload_n 0, 1) := by decide +kernel
theorem dX3_passOneDay_87 : decode cX3_passOneDay 87 = .ok (.getfield 37, 3) := by decide +kernel
theorem dX3_passOneDay_90 : decode cX3_passOneDay 90 = .ok (.iload_n 1, 1) := by decide +kernel
theorem dX3_passOneDay_91 : decode cX3_passOneDay 91 = .ok (.iaload, 1) := by decide +kernel
theorem dX3_passOneDay_92 : decode cX3_passOneDay 92 = .ok (.iconst 1, 1) := by decide +kernel
theorem dX3_passOneDay_93 : decode cX3_passOneDay 93 = .ok (.isub, 1) := by decide +kernel
theorem dX3_passOneDay_94 : decode cX3_passOneDay 94 = .ok (.invokestatic 372, 3) := by decide +kernel
theorem dX3_passOneDay_97 : decode cX3_passOneDay 97 = .ok (.iastore, 1) := by decide +kernel
theorem dX3_passOneDay_98 : decode cX3_passOneDay 98 = .ok (.iinc 1 1, 3) := by decide +kernel
theorem dX3_passOneDay_101 : decode cX3_passOneDay 101 = .ok (.goto (-26), 3) := by decide +kernel
theorem dX3_passOneDay_104 : decode cX3_passOneDay 104 = .ok (.return_, 1) := by decide +kernel
theorem dX3_oneIf_0 : decode cX3_oneIf 0 = .ok (.iload_n 0, 1) := by decide +kernel
theorem dX3_oneIf_1 : decode cX3_oneIf 1 = .ok (.ifCond .eq 7, 3) := by decide +kernel
theorem dX3_oneIf_4 : decode cX3_oneIf 4 = .ok (.iconst 1, 1) := by decide +kernel
theorem dX3_oneIf_5 : decode cX3_oneIf 5 = .ok (.goto 4, 3) := by decide +kernel
theorem dX3_oneIf_8 : decode cX3_oneIf 8 = .ok (.iconst 0, 1) := by decide +kernel
theorem dX3_oneIf_9 : decode cX3_oneIf 9 = .ok (.ireturn, 1) := by decide +kernel
theorem dX3_isInSet_0 : decode cX3_isInSet 0 = .ok (.iload_n 0, 1) := by decide +kernel
theorem dX3_isInSet_1 : decode cX3_isInSet 1 = .ok (.iconst 1, 1) := by decide +kernel
theorem dX3_isInSet_2 : decode cX3_isInSet 2 = .ok (.iload_n 1, 1) := by decide +kernel
theorem dX3_isInSet_3 : decode cX3_isInSet 3 = .ok (.ishl, 1) := by decide +kernel
theorem dX3_isInSet_4 : decode cX3_isInSet 4 = .ok (.iand, 1) := by decide +kernel
theorem dX3_isInSet_5 : decode cX3_isInSet 5 = .ok (.ifCond .eq 7, 3) := by decide +kernel
theorem dX3_isInSet_8 : decode cX3_isInSet 8 = .ok (.iconst 1, 1) := by decide +kernel
theorem dX3_isInSet_9 : decode cX3_isInSet 9 = .ok (.goto 4, 3) := by decide +kernel
theorem dX3_isInSet_12 : decode cX3_isInSet 12 = .ok (.iconst 0, 1) := by decide +kernel
theorem dX3_isInSet_13 : decode cX3_isInSet 13 = .ok (.ireturn, 1) := by decide +kernel
theorem dX3_armedSet_0 : decode cX3_armedSet 0 = .ok (.iconst 0, 1) := by decide +kernel
theorem dX3_armedSet_1 : decode cX3_armedSet 1 = .ok (.istore_n 1, 1) := by decide +kernel
theorem dX3_armedSet_2 : decode cX3_armedSet 2 = .ok (.iconst 0, 1) := by decide +kernel
theorem dX3_armedSet_3 : decode cX3_armedSet 3 = .ok (.istore_n 2, 1) := by decide +kernel
theorem dX3_armedSet_4 : decode cX3_armedSet 4 = .ok (.iload_n 2, 1) := by decide +kernel
theorem dX3_armedSet_5 : decode cX3_armedSet 5 = .ok (.aload_n 0, 1) := by decide +kernel
theorem dX3_armedSet_6 : decode cX3_armedSet 6 = .ok (.getfield 34, 3) := by decide +kernel
theorem dX3_armedSet_9 : decode cX3_armedSet 9 = .ok (.if_icmp .ge 27, 3) := by decide +kernel
theorem dX3_armedSet_12 : decode cX3_armedSet 12 = .ok (.aload_n 0, 1) := by decide +kernel
theorem dX3_armedSet_13 : decode cX3_armedSet 13 = .ok (.getfield 23, 3) := by decide +kernel
theorem dX3_armedSet_16 : decode cX3_armedSet 16 = .ok (.iload_n 2, 1) := by decide +kernel
theorem dX3_armedSet_17 : decode cX3_armedSet 17 = .ok (.aaload, 1) := by decide +kernel
theorem dX3_armedSet_18 : decode cX3_armedSet 18 = .ok (.getfield 107, 3) := by decide +kernel
theorem dX3_armedSet_21 : decode cX3_armedSet 21 = .ok (.ifCond .eq 9, 3) := by decide +kernel
theorem dX3_armedSet_24 : decode cX3_armedSet 24 = .ok (.iload_n 1, 1) := by decide +kernel
theorem dX3_armedSet_25 : decode cX3_armedSet 25 = .ok (.iconst 1, 1) := by decide +kernel
theorem dX3_armedSet_26 : decode cX3_armedSet 26 = .ok (.iload_n 2, 1) := by decide +kernel
theorem dX3_armedSet_27 : decode cX3_armedSet 27 = .ok (.ishl, 1) := by decide +kernel
theorem dX3_armedSet_28 : decode cX3_armedSet 28 = .ok (.ior, 1) := by decide +kernel
theorem dX3_armedSet_29 : decode cX3_armedSet 29 = .ok (.istore_n 1, 1) := by decide +kernel
theorem dX3_armedSet_30 : decode cX3_armedSet 30 = .ok (.iinc 2 1, 3) := by decide +kernel
theorem dX3_armedSet_33 : decode cX3_armedSet 33 = .ok (.goto (-29), 3) := by decide +kernel
theorem dX3_armedSet_36 : decode cX3_armedSet 36 = .ok (.iload_n 1, 1) := by decide +kernel
theorem dX3_armedSet_37 : decode cX3_armedSet 37 = .ok (.ireturn, 1) := by decide +kernel
theorem dX3_fitCount_0 : decode cX3_fitCount 0 = .ok (.iconst 0, 1) := by decide +kernel
theorem dX3_fitCount_1 : decode cX3_fitCount 1 = .ok (.istore_n 1, 1) := by decide +kernel
theorem dX3_fitCount_2 : decode cX3_fitCount 2 = .ok (.iconst 0, 1) := by decide +kernel
theorem dX3_fitCount_3 : decode cX3_fitCount 3 = .ok (.istore_n 2, 1) := by decide +kernel
theorem dX3_fitCount_4 : decode cX3_fitCount 4 = .ok (.iload_n 2, 1) := by decide +kernel
theorem dX3_fitCount_5 : decode cX3_fitCount 5 = .ok (.aload_n 0, 1) := by decide +kernel
theorem dX3_fitCount_6 : decode cX3_fitCount 6 = .ok (.getfield 31, 3) := by decide +kernel
theorem dX3_fitCount_9 : decode cX3_fitCount 9 = .ok (.if_icmp .ge 20, 3) := by decide +kernel
theorem dX3_fitCount_12 : decode cX3_fitCount 12 = .ok (.iload_n 1, 1) := by decide +kernel
theorem dX3_fitCount_13 : decode cX3_fitCount 13 = .ok (.aload_n 0, 1) := by decide +kernel
theorem dX3_fitCount_14 : decode cX3_fitCount 14 = .ok (.iload_n 2, 1) := by decide +kernel
theorem dX3_fitCount_15 : decode cX3_fitCount 15 = .ok (.invokevirtual 258, 3) := by decide +kernel
theorem dX3_fitCount_18 : decode cX3_fitCount 18 = .ok (.invokestatic 242, 3) := by decide +kernel
theorem dX3_fitCount_21 : decode cX3_fitCount 21 = .ok (.iadd, 1) := by decide +kernel
theorem dX3_fitCount_22 : decode cX3_fitCount 22 = .ok (.istore_n 1, 1) := by decide +kernel
theorem dX3_fitCount_23 : decode cX3_fitCount 23 = .ok (.iinc 2 1, 3) := by decide +kernel
theorem dX3_fitCount_26 : decode cX3_fitCount 26 = .ok (.goto (-22), 3) := by decide +kernel
theorem dX3_fitCount_29 : decode cX3_fitCount 29 = .ok (.iload_n 1, 1) := by decide +kernel
theorem dX3_fitCount_30 : decode cX3_fitCount 30 = .ok (.ireturn, 1) := by decide +kernel
theorem dX3_hurtCount_0 : decode cX3_hurtCount 0 = .ok (.iconst 0, 1) := by decide +kernel
theorem dX3_hurtCount_1 : decode cX3_hurtCount 1 = .ok (.istore_n 1, 1) := by decide +kernel
theorem dX3_hurtCount_2 : decode cX3_hurtCount 2 = .ok (.iconst 0, 1) := by decide +kernel
theorem dX3_hurtCount_3 : decode cX3_hurtCount 3 = .ok (.istore_n 2, 1) := by decide +kernel
theorem dX3_hurtCount_4 : decode cX3_hurtCount 4 = .ok (.iload_n 2, 1) := by decide +kernel
theorem dX3_hurtCount_5 : decode cX3_hurtCount 5 = .ok (.aload_n 0, 1) := by decide +kernel
theorem dX3_hurtCount_6 : decode cX3_hurtCount 6 = .ok (.getfield 27, 3) := by decide +kernel
theorem dX3_hurtCount_9 : decode cX3_hurtCount 9 = .ok (.if_icmp .ge 24, 3) := by decide +kernel
theorem dX3_hurtCount_12 : decode cX3_hurtCount 12 = .ok (.iload_n 1, 1) := by decide +kernel
theorem dX3_hurtCount_13 : decode cX3_hurtCount 13 = .ok (.aload_n 0, 1) := by decide +kernel
theorem dX3_hurtCount_14 : decode cX3_hurtCount 14 = .ok (.getfield 11, 3) := by decide +kernel
theorem dX3_hurtCount_17 : decode cX3_hurtCount 17 = .ok (.iload_n 2, 1) := by decide +kernel
theorem dX3_hurtCount_18 : decode cX3_hurtCount 18 = .ok (.aaload, 1) := by decide +kernel
theorem dX3_hurtCount_19 : decode cX3_hurtCount 19 = .ok (.getfield 167, 3) := by decide +kernel
theorem dX3_hurtCount_22 : decode cX3_hurtCount 22 = .ok (.invokestatic 242, 3) := by decide +kernel
theorem dX3_hurtCount_25 : decode cX3_hurtCount 25 = .ok (.iadd, 1) := by decide +kernel
theorem dX3_hurtCount_26 : decode cX3_hurtCount 26 = .ok (.istore_n 1, 1) := by decide +kernel
theorem dX3_hurtCount_27 : decode cX3_hurtCount 27 = .ok (.iinc 2 1, 3) := by decide +kernel
theorem dX3_hurtCount_30 : decode cX3_hurtCount 30 = .ok (.goto (-26), 3) := by decide +kernel
theorem dX3_hurtCount_33 : decode cX3_hurtCount 33 = .ok (.iload_n 1, 1) := by decide +kernel
theorem dX3_hurtCount_34 : decode cX3_hurtCount 34 = .ok (.ireturn, 1) := by decide +kernel
theorem dX3_payOfAll_0 : decode cX3_payOfAll 0 = .ok (.iconst 0, 1) := by decide +kernel
theorem dX3_payOfAll_1 : decode cX3_payOfAll 1 = .ok (.istore_n 1, 1) := by decide +kernel
theorem dX3_payOfAll_2 : decode cX3_payOfAll 2 = .ok (.iconst 0, 1) := by decide +kernel
theorem dX3_payOfAll_3 : decode cX3_payOfAll 3 = .ok (.istore_n 2, 1) := by decide +kernel
theorem dX3_payOfAll_4 : decode cX3_payOfAll 4 = .ok (.iload_n 2, 1) := by decide +kernel
theorem dX3_payOfAll_5 : decode cX3_payOfAll 5 = .ok (.aload_n 0, 1) := by decide +kernel
theorem dX3_payOfAll_6 : decode cX3_payOfAll 6 = .ok (.getfield 27, 3) := by decide +kernel
theorem dX3_payOfAll_9 : decode cX3_payOfAll 9 = .ok (.if_icmp .ge 21, 3) := by decide +kernel
theorem dX3_payOfAll_12 : decode cX3_payOfAll 12 = .ok (.iload_n 1, 1) := by decide +kernel
theorem dX3_payOfAll_13 : decode cX3_payOfAll 13 = .ok (.aload_n 0, 1) := by decide +kernel
theorem dX3_payOfAll_14 : decode cX3_payOfAll 14 = .ok (.getfield 11, 3) := by decide +kernel
theorem dX3_payOfAll_17 : decode cX3_payOfAll 17 = .ok (.iload_n 2, 1) := by decide +kernel
theorem dX3_payOfAll_18 : decode cX3_payOfAll 18 = .ok (.aaload, 1) := by decide +kernel
theorem dX3_payOfAll_19 : decode cX3_payOfAll 19 = .ok (.getfield 249, 3) := by decide +kernel
theorem dX3_payOfAll_22 : decode cX3_payOfAll 22 = .ok (.iadd, 1) := by decide +kernel
theorem dX3_payOfAll_23 : decode cX3_payOfAll 23 = .ok (.istore_n 1, 1) := by decide +kernel
theorem dX3_payOfAll_24 : decode cX3_payOfAll 24 = .ok (.iinc 2 1, 3) := by decide +kernel
theorem dX3_payOfAll_27 : decode cX3_payOfAll 27 = .ok (.goto (-23), 3) := by decide +kernel
theorem dX3_payOfAll_30 : decode cX3_payOfAll 30 = .ok (.iload_n 1, 1) := by decide +kernel
theorem dX3_payOfAll_31 : decode cX3_payOfAll 31 = .ok (.ireturn, 1) := by decide +kernel
theorem dX3_missesOfAll_0 : decode cX3_missesOfAll 0 = .ok (.iconst 0, 1) := by decide +kernel
theorem dX3_missesOfAll_1 : decode cX3_missesOfAll 1 = .ok (.istore_n 1, 1) := by decide +kernel
theorem dX3_missesOfAll_2 : decode cX3_missesOfAll 2 = .ok (.iconst 0, 1) := by decide +kernel
theorem dX3_missesOfAll_3 : decode cX3_missesOfAll 3 = .ok (.istore_n 2, 1) := by decide +kernel
theorem dX3_missesOfAll_4 : decode cX3_missesOfAll 4 = .ok (.iload_n 2, 1) := by decide +kernel
theorem dX3_missesOfAll_5 : decode cX3_missesOfAll 5 = .ok (.iconst 4, 1) := by decide +kernel
theorem dX3_missesOfAll_6 : decode cX3_missesOfAll 6 = .ok (.if_icmp .ge 18, 3) := by decide +kernel
theorem dX3_missesOfAll_9 : decode cX3_missesOfAll 9 = .ok (.iload_n 1, 1) := by decide +kernel
theorem dX3_missesOfAll_10 : decode cX3_missesOfAll 10 = .ok (.aload_n 0, 1) := by decide +kernel
theorem dX3_missesOfAll_11 : decode cX3_missesOfAll 11 = .ok (.getfield 41, 3) := by decide +kernel
theorem dX3_missesOfAll_14 : decode cX3_missesOfAll 14 = .ok (.iload_n 2, 1) := by decide +kernel
theorem dX3_missesOfAll_15 : decode cX3_missesOfAll 15 = .ok (.iaload, 1) := by decide +kernel
theorem dX3_missesOfAll_16 : decode cX3_missesOfAll 16 = .ok (.iadd, 1) := by decide +kernel
theorem dX3_missesOfAll_17 : decode cX3_missesOfAll 17 = .ok (.istore_n 1, 1) := by decide +kernel
theorem dX3_missesOfAll_18 : decode cX3_missesOfAll 18 = .ok (.iinc 2 1, 3) := by decide +kernel
theorem dX3_missesOfAll_21 : decode cX3_missesOfAll 21 = .ok (.goto (-17), 3) := by decide +kernel
theorem dX3_missesOfAll_24 : decode cX3_missesOfAll 24 = .ok (.iload_n 1, 1) := by decide +kernel
theorem dX3_missesOfAll_25 : decode cX3_missesOfAll 25 = .ok (.ireturn, 1) := by decide +kernel
theorem dX3_bestFreePiece_0 : decode cX3_bestFreePiece 0 = .ok (.iconst (-1), 1) := by decide +kernel
theorem dX3_bestFreePiece_1 : decode cX3_bestFreePiece 1 = .ok (.istore_n 3, 1) := by decide +kernel
theorem dX3_bestFreePiece_2 : decode cX3_bestFreePiece 2 = .ok (.iconst 0, 1) := by decide +kernel
theorem dX3_bestFreePiece_3 : decode cX3_bestFreePiece 3 = .ok (.istore 4, 2) := by decide +kernel
theorem dX3_bestFreePiece_5 : decode cX3_bestFreePiece 5 = .ok (.iload 4, 2) := by decide +kernel
theorem dX3_bestFreePiece_7 : decode cX3_bestFreePiece 7 = .ok (.aload_n 0, 1) := by decide +kernel
theorem dX3_bestFreePiece_8 : decode cX3_bestFreePiece 8 = .ok (.getfield 31, 3) := by decide +kernel
theorem dX3_bestFreePiece_11 : decode cX3_bestFreePiece 11 = .ok (.if_icmp .ge 97, 3) := by decide +kernel
theorem dX3_bestFreePiece_14 : decode cX3_bestFreePiece 14 = .ok (.aload_n 0, 1) := by decide +kernel
theorem dX3_bestFreePiece_15 : decode cX3_bestFreePiece 15 = .ok (.getfield 17, 3) := by decide +kernel
theorem dX3_bestFreePiece_18 : decode cX3_bestFreePiece 18 = .ok (.iload 4, 2) := by decide +kernel
theorem dX3_bestFreePiece_20 : decode cX3_bestFreePiece 20 = .ok (.aaload, 1) := by decide +kernel
theorem dX3_bestFreePiece_21 : decode cX3_bestFreePiece 21 = .ok (.getfield 125, 3) := by decide +kernel
theorem dX3_bestFreePiece_24 : decode cX3_bestFreePiece 24 = .ok (.iload_n 1, 1) := by decide +kernel
theorem dX3_bestFreePiece_25 : decode cX3_bestFreePiece 25 = .ok (.if_icmp .ne 39, 3) := by decide +kernel
theorem dX3_bestFreePiece_28 : decode cX3_bestFreePiece 28 = .ok (.aload_n 0, 1) := by decide +kernel
theorem dX3_bestFreePiece_29 : decode cX3_bestFreePiece 29 = .ok (.getfield 17, 3) := by decide +kernel
theorem dX3_bestFreePiece_32 : decode cX3_bestFreePiece 32 = .ok (.iload 4, 2) := by decide +kernel
theorem dX3_bestFreePiece_34 : decode cX3_bestFreePiece 34 = .ok (.aaload, 1) := by decide +kernel
theorem dX3_bestFreePiece_35 : decode cX3_bestFreePiece 35 = .ok (.getfield 141, 3) := by decide +kernel
theorem dX3_bestFreePiece_38 : decode cX3_bestFreePiece 38 = .ok (.iconst (-1), 1) := by decide +kernel
theorem dX3_bestFreePiece_39 : decode cX3_bestFreePiece 39 = .ok (.if_icmp .ne 25, 3) := by decide +kernel
theorem dX3_bestFreePiece_42 : decode cX3_bestFreePiece 42 = .ok (.aload_n 0, 1) := by decide +kernel
theorem dX3_bestFreePiece_43 : decode cX3_bestFreePiece 43 = .ok (.iload 4, 2) := by decide +kernel
theorem dX3_bestFreePiece_45 : decode cX3_bestFreePiece 45 = .ok (.invokevirtual 258, 3) := by decide +kernel
theorem dX3_bestFreePiece_48 : decode cX3_bestFreePiece 48 = .ok (.ifCond .eq 16, 3) := by decide +kernel
theorem dX3_bestFreePiece_51 : decode cX3_bestFreePiece 51 = .ok (.iload_n 2, 1) := by decide +kernel
theorem dX3_bestFreePiece_52 : decode cX3_bestFreePiece 52 = .ok (.iload 4, 2) := by decide +kernel
theorem dX3_bestFreePiece_54 : decode cX3_bestFreePiece 54 = .ok (.invokestatic 199, 3) := by decide +kernel
theorem dX3_bestFreePiece_57 : decode cX3_bestFreePiece 57 = .ok (.ifCond .ne 7, 3) := by decide +kernel
theorem dX3_bestFreePiece_60 : decode cX3_bestFreePiece 60 = .ok (.iconst 1, 1) := by decide +kernel
theorem dX3_bestFreePiece_61 : decode cX3_bestFreePiece 61 = .ok (.goto 4, 3) := by decide +kernel
theorem dX3_bestFreePiece_64 : decode cX3_bestFreePiece 64 = .ok (.iconst 0, 1) := by decide +kernel
theorem dX3_bestFreePiece_65 : decode cX3_bestFreePiece 65 = .ok (.istore 5, 2) := by decide +kernel
theorem dX3_bestFreePiece_67 : decode cX3_bestFreePiece 67 = .ok (.iload 5, 2) := by decide +kernel
theorem dX3_bestFreePiece_69 : decode cX3_bestFreePiece 69 = .ok (.ifCond .eq 33, 3) := by decide +kernel
theorem dX3_bestFreePiece_72 : decode cX3_bestFreePiece 72 = .ok (.iload_n 3, 1) := by decide +kernel
theorem dX3_bestFreePiece_73 : decode cX3_bestFreePiece 73 = .ok (.iconst (-1), 1) := by decide +kernel
theorem dX3_bestFreePiece_74 : decode cX3_bestFreePiece 74 = .ok (.if_icmp .eq 25, 3) := by decide +kernel
theorem dX3_bestFreePiece_77 : decode cX3_bestFreePiece 77 = .ok (.aload_n 0, 1) := by decide +kernel
theorem dX3_bestFreePiece_78 : decode cX3_bestFreePiece 78 = .ok (.getfield 17, 3) := by decide +kernel
theorem dX3_bestFreePiece_81 : decode cX3_bestFreePiece 81 = .ok (.iload 4, 2) := by decide +kernel
theorem dX3_bestFreePiece_83 : decode cX3_bestFreePiece 83 = .ok (.aaload, 1) := by decide +kernel
theorem dX3_bestFreePiece_84 : decode cX3_bestFreePiece 84 = .ok (.getfield 126, 3) := by decide +kernel
theorem dX3_bestFreePiece_87 : decode cX3_bestFreePiece 87 = .ok (.aload_n 0, 1) := by decide +kernel
theorem dX3_bestFreePiece_88 : decode cX3_bestFreePiece 88 = .ok (.getfield 17, 3) := by decide +kernel
theorem dX3_bestFreePiece_91 : decode cX3_bestFreePiece 91 = .ok (.iload_n 3, 1) := by decide +kernel
theorem dX3_bestFreePiece_92 : decode cX3_bestFreePiece 92 = .ok (.aaload, 1) := by decide +kernel
theorem dX3_bestFreePiece_93 : decode cX3_bestFreePiece 93 = .ok (.getfield 126, 3) := by decide +kernel
theorem dX3_bestFreePiece_96 : decode cX3_bestFreePiece 96 = .ok (.if_icmp .le 6, 3) := by decide +kernel
theorem dX3_bestFreePiece_99 : decode cX3_bestFreePiece 99 = .ok (.iload 4, 2) := by decide +kernel
theorem dX3_bestFreePiece_101 : decode cX3_bestFreePiece 101 = .ok (.istore_n 3, 1) := by decide +kernel
theorem dX3_bestFreePiece_102 : decode cX3_bestFreePiece 102 = .ok (.iinc 4 1, 3) := by decide +kernel
theorem dX3_bestFreePiece_105 : decode cX3_bestFreePiece 105 = .ok (.goto (-100), 3) := by decide +kernel
theorem dX3_bestFreePiece_108 : decode cX3_bestFreePiece 108 = .ok (.iload_n 3, 1) := by decide +kernel
theorem dX3_bestFreePiece_109 : decode cX3_bestFreePiece 109 = .ok (.ireturn, 1) := by decide +kernel
theorem dJ6_bitCount_0f7a4_0 : decode cJ6_bitCount_0f7a4 0 = .ok (.iload_n 0, 1) := by decide +kernel
theorem dJ6_bitCount_0f7a4_1 : decode cJ6_bitCount_0f7a4 1 = .ok (.iload_n 0, 1) := by decide +kernel
theorem dJ6_bitCount_0f7a4_2 : decode cJ6_bitCount_0f7a4 2 = .ok (.iconst 1, 1) := by decide +kernel
theorem dJ6_bitCount_0f7a4_3 : decode cJ6_bitCount_0f7a4 3 = .ok (.iushr, 1) := by decide +kernel
theorem dJ6_bitCount_0f7a4_4 : decode cJ6_bitCount_0f7a4 4 = .ok (.ldc_w 265, 3) := by decide +kernel
theorem dJ6_bitCount_0f7a4_7 : decode cJ6_bitCount_0f7a4 7 = .ok (.iand, 1) := by decide +kernel
theorem dJ6_bitCount_0f7a4_8 : decode cJ6_bitCount_0f7a4 8 = .ok (.isub, 1) := by decide +kernel
theorem dJ6_bitCount_0f7a4_9 : decode cJ6_bitCount_0f7a4 9 = .ok (.istore_n 0, 1) := by decide +kernel
theorem dJ6_bitCount_0f7a4_10 : decode cJ6_bitCount_0f7a4 10 = .ok (.iload_n 0, 1) := by decide +kernel
theorem dJ6_bitCount_0f7a4_11 : decode cJ6_bitCount_0f7a4 11 = .ok (.ldc_w 266, 3) := by decide +kernel
theorem dJ6_bitCount_0f7a4_14 : decode cJ6_bitCount_0f7a4 14 = .ok (.iand, 1) := by decide +kernel
theorem dJ6_bitCount_0f7a4_15 : decode cJ6_bitCount_0f7a4 15 = .ok (.iload_n 0, 1) := by decide +kernel
theorem dJ6_bitCount_0f7a4_16 : decode cJ6_bitCount_0f7a4 16 = .ok (.iconst 2, 1) := by decide +kernel
theorem dJ6_bitCount_0f7a4_17 : decode cJ6_bitCount_0f7a4 17 = .ok (.iushr, 1) := by decide +kernel
theorem dJ6_bitCount_0f7a4_18 : decode cJ6_bitCount_0f7a4 18 = .ok (.ldc_w 266, 3) := by decide +kernel
theorem dJ6_bitCount_0f7a4_21 : decode cJ6_bitCount_0f7a4 21 = .ok (.iand, 1) := by decide +kernel
theorem dJ6_bitCount_0f7a4_22 : decode cJ6_bitCount_0f7a4 22 = .ok (.iadd, 1) := by decide +kernel
theorem dJ6_bitCount_0f7a4_23 : decode cJ6_bitCount_0f7a4 23 = .ok (.istore_n 0, 1) := by decide +kernel
theorem dJ6_bitCount_0f7a4_24 : decode cJ6_bitCount_0f7a4 24 = .ok (.iload_n 0, 1) := by decide +kernel
theorem dJ6_bitCount_0f7a4_25 : decode cJ6_bitCount_0f7a4 25 = .ok (.iload_n 0, 1) := by decide +kernel
theorem dJ6_bitCount_0f7a4_26 : decode cJ6_bitCount_0f7a4 26 = .ok (.iconst 4, 1) := by decide +kernel
theorem dJ6_bitCount_0f7a4_27 : decode cJ6_bitCount_0f7a4 27 = .ok (.iushr, 1) := by decide +kernel
theorem dJ6_bitCount_0f7a4_28 : decode cJ6_bitCount_0f7a4 28 = .ok (.iadd, 1) := by decide +kernel
theorem dJ6_bitCount_0f7a4_29 : decode cJ6_bitCount_0f7a4 29 = .ok (.ldc_w 267, 3) := by decide +kernel
theorem dJ6_bitCount_0f7a4_32 : decode cJ6_bitCount_0f7a4 32 = .ok (.iand, 1) := by decide +kernel
theorem dJ6_bitCount_0f7a4_33 : decode cJ6_bitCount_0f7a4 33 = .ok (.istore_n 0, 1) := by decide +kernel
theorem dJ6_bitCount_0f7a4_34 : decode cJ6_bitCount_0f7a4 34 = .ok (.iload_n 0, 1) := by decide +kernel
theorem dJ6_bitCount_0f7a4_35 : decode cJ6_bitCount_0f7a4 35 = .ok (.iload_n 0, 1) := by decide +kernel
theorem dJ6_bitCount_0f7a4_36 : decode cJ6_bitCount_0f7a4 36 = .ok (.bipush 8, 2) := by decide +kernel
theorem dJ6_bitCount_0f7a4_38 : decode cJ6_bitCount_0f7a4 38 = .ok (.iushr, 1) := by decide +kernel
theorem dJ6_bitCount_0f7a4_39 : decode cJ6_bitCount_0f7a4 39 = .ok (.iadd, 1) := by decide +kernel
theorem dJ6_bitCount_0f7a4_40 : decode cJ6_bitCount_0f7a4 40 = .ok (.istore_n 0, 1) := by decide +kernel
theorem dJ6_bitCount_0f7a4_41 : decode cJ6_bitCount_0f7a4 41 = .ok (.iload_n 0, 1) := by decide +kernel
theorem dJ6_bitCount_0f7a4_42 : decode cJ6_bitCount_0f7a4 42 = .ok (.iload_n 0, 1) := by decide +kernel
theorem dJ6_bitCount_0f7a4_43 : decode cJ6_bitCount_0f7a4 43 = .ok (.bipush 16, 2) := by decide +kernel
theorem dJ6_bitCount_0f7a4_45 : decode cJ6_bitCount_0f7a4 45 = .ok (.iushr, 1) := by decide +kernel
theorem dJ6_bitCount_0f7a4_46 : decode cJ6_bitCount_0f7a4 46 = .ok (.iadd, 1) := by decide +kernel
theorem dJ6_bitCount_0f7a4_47 : decode cJ6_bitCount_0f7a4 47 = .ok (.istore_n 0, 1) := by decide +kernel
theorem dJ6_bitCount_0f7a4_48 : decode cJ6_bitCount_0f7a4 48 = .ok (.iload_n 0, 1) := by decide +kernel
theorem dJ6_bitCount_0f7a4_49 : decode cJ6_bitCount_0f7a4 49 = .ok (.bipush 63, 2) := by decide +kernel
theorem dJ6_bitCount_0f7a4_51 : decode cJ6_bitCount_0f7a4 51 = .ok (.iand, 1) := by decide +kernel
theorem dJ6_bitCount_0f7a4_52 : decode cJ6_bitCount_0f7a4 52 = .ok (.ireturn, 1) := by decide +kernel
theorem dJ9_abs_0f7a4_0 : decode cJ9_abs_0f7a4 0 = .ok (.iload_n 0, 1) := by decide +kernel
theorem dJ9_abs_0f7a4_1 : decode cJ9_abs_0f7a4 1 = .ok (.ifCond .ge 8, 3) := by decide +kernel
theorem dJ9_abs_0f7a4_4 : decode cJ9_abs_0f7a4 4 = .ok (.iload_n 0, 1) := by decide +kernel
theorem dJ9_abs_0f7a4_5 : decode cJ9_abs_0f7a4 5 = .ok (.ineg, 1) := by decide +kernel
theorem dJ9_abs_0f7a4_6 : decode cJ9_abs_0f7a4 6 = .ok (.goto 4, 3) := by decide +kernel
theorem dJ9_abs_0f7a4_9 : decode cJ9_abs_0f7a4 9 = .ok (.iload_n 0, 1) := by decide +kernel
theorem dJ9_abs_0f7a4_10 : decode cJ9_abs_0f7a4 10 = .ok (.ireturn, 1) := by decide +kernel
theorem dJ9_max_7cf53_0 : decode cJ9_max_7cf53 0 = .ok (.iload_n 0, 1) := by decide +kernel
theorem dJ9_max_7cf53_1 : decode cJ9_max_7cf53 1 = .ok (.iload_n 1, 1) := by decide +kernel
theorem dJ9_max_7cf53_2 : decode cJ9_max_7cf53 2 = .ok (.if_icmp .lt 7, 3) := by decide +kernel
theorem dJ9_max_7cf53_5 : decode cJ9_max_7cf53 5 = .ok (.iload_n 0, 1) := by decide +kernel
theorem dJ9_max_7cf53_6 : decode cJ9_max_7cf53 6 = .ok (.goto 4, 3) := by decide +kernel
theorem dJ9_max_7cf53_9 : decode cJ9_max_7cf53 9 = .ok (.iload_n 1, 1) := by decide +kernel
theorem dJ9_max_7cf53_10 : decode cJ9_max_7cf53 10 = .ok (.ireturn, 1) := by decide +kernel
theorem dJ9_min_7cf53_0 : decode cJ9_min_7cf53 0 = .ok (.iload_n 0, 1) := by decide +kernel
theorem dJ9_min_7cf53_1 : decode cJ9_min_7cf53 1 = .ok (.iload_n 1, 1) := by decide +kernel
theorem dJ9_min_7cf53_2 : decode cJ9_min_7cf53 2 = .ok (.if_icmp .gt 7, 3) := by decide +kernel
theorem dJ9_min_7cf53_5 : decode cJ9_min_7cf53 5 = .ok (.iload_n 0, 1) := by decide +kernel
theorem dJ9_min_7cf53_6 : decode cJ9_min_7cf53 6 = .ok (.goto 4, 3) := by decide +kernel
theorem dJ9_min_7cf53_9 : decode cJ9_min_7cf53 9 = .ok (.iload_n 1, 1) := by decide +kernel
theorem dJ9_min_7cf53_10 : decode cJ9_min_7cf53 10 = .ok (.ireturn, 1) := by decide +kernel
end
section
theorem dL_below_0 : decode cL_below 0 = .ok (.iload_n 0, 1) := by decide +kernel
theorem dL_below_1 : decode cL_below 1 = .ok (.ldc 7, 2) := by decide +kernel
theorem dL_below_3 : decode cL_below 3 = .ok (.iand, 1) := by decide +kernel
theorem dL_below_4 : decode cL_below 4 = .ok (.iload_n 1, 1) := by decide +kernel
theorem dL_below_5 : decode cL_below 5 = .ok (.irem, 1) := by decide +kernel
theorem dL_below_6 : decode cL_below 6 = .ok (.ireturn, 1) := by decide +kernel
theorem dL_cell_0 : decode cL_cell 0 = .ok (.iload_n 1, 1) := by decide +kernel
theorem dL_cell_1 : decode cL_cell 1 = .ok (.aload_n 0, 1) := by decide +kernel
theorem dL_cell_2 : decode cL_cell 2 = .ok (.arraylength, 1) := by decide +kernel
theorem dL_cell_3 : decode cL_cell 3 = .ok (.if_icmp .ge 9, 3) := by decide +kernel
theorem dL_cell_6 : decode cL_cell 6 = .ok (.aload_n 0, 1) := by decide +kernel
theorem dL_cell_7 : decode cL_cell 7 = .ok (.iload_n 1, 1) := by decide +kernel
theorem dL_cell_8 : decode cL_cell 8 = .ok (.iaload, 1) := by decide +kernel
theorem dL_cell_9 : decode cL_cell 9 = .ok (.goto 9, 3) := by decide +kernel
theorem dL_cell_12 : decode cL_cell 12 = .ok (.ldc 8, 2) := by decide +kernel
theorem dL_cell_14 : decode cL_cell 14 = .ok (.iload_n 1, 1) := by decide +kernel
theorem dL_cell_15 : decode cL_cell 15 = .ok (.iconst 3, 1) := by decide +kernel
theorem dL_cell_16 : decode cL_cell 16 = .ok (.iadd, 1) := by decide +kernel
theorem dL_cell_17 : decode cL_cell 17 = .ok (.imul, 1) := by decide +kernel
theorem dL_cell_18 : decode cL_cell 18 = .ok (.ireturn, 1) := by decide +kernel
theorem dL_write_0 : decode cL_write 0 = .ok (.iconst 0, 1) := by decide +kernel
theorem dL_write_1 : decode cL_write 1 = .ok (.istore_n 3, 1) := by decide +kernel
theorem dL_write_2 : decode cL_write 2 = .ok (.iload_n 3, 1) := by decide +kernel
theorem dL_write_3 : decode cL_write 3 = .ok (.iconst 5, 1) := by decide +kernel
theorem dL_write_4 : decode cL_write 4 = .ok (.if_icmp .ge 102, 3) := by decide +kernel
theorem dL_write_7 : decode cL_write 7 = .ok (.aload_n 1, 1) := by decide +kernel
theorem dL_write_8 : decode cL_write 8 = .ok (.iload_n 3, 1) := by decide +kernel
theorem dL_write_9 : decode cL_write 9 = .ok (.iload_n 2, 1) := by decide +kernel
theorem dL_write_10 : decode cL_write 10 = .ok (.iadd, 1) := by decide +kernel
theorem dL_write_11 : decode cL_write 11 = .ok (.invokestatic 9, 3) := by decide +kernel
theorem dL_write_14 : decode cL_write 14 = .ok (.istore 4, 2) := by decide +kernel
theorem dL_write_16 : decode cL_write 16 = .ok (.aload_n 0, 1) := by decide +kernel
theorem dL_write_17 : decode cL_write 17 = .ok (.iload 4, 2) := by decide +kernel
theorem dL_write_19 : decode cL_write 19 = .ok (.bipush 6, 2) := by decide +kernel
theorem dL_write_21 : decode cL_write 21 = .ok (.invokestatic 15, 3) := by decide +kernel
theorem dL_write_24 : decode cL_write 24 = .ok (.ifCond .ne 7, 3) := by decide +kernel
theorem dL_write_27 : decode cL_write 27 = .ok (.iconst 1, 1) := by decide +kernel
theorem dL_write_28 : decode cL_write 28 = .ok (.goto 4, 3) := by decide +kernel
theorem dL_write_31 : decode cL_write 31 = .ok (.iconst 0, 1) := by decide +kernel
theorem dL_write_32 : decode cL_write 32 = .ok (.iload 4, 2) := by decide +kernel
theorem dL_write_34 : decode cL_write 34 = .ok (.iconst 1, 1) := by decide +kernel
theorem dL_write_35 : decode cL_write 35 = .ok (.ishr, 1) := by decide +kernel
theorem dL_write_36 : decode cL_write 36 = .ok (.iconst 2, 1) := by decide +kernel
theorem dL_write_37 : decode cL_write 37 = .ok (.invokestatic 15, 3) := by decide +kernel
theorem dL_write_40 : decode cL_write 40 = .ok (.ifCond .ne 7, 3) := by decide +kernel
theorem dL_write_43 : decode cL_write 43 = .ok (.iconst 1, 1) := by decide +kernel
theorem dL_write_44 : decode cL_write 44 = .ok (.goto 4, 3) := by decide +kernel
theorem dL_write_47 : decode cL_write 47 = .ok (.iconst 0, 1) := by decide +kernel
theorem dL_write_48 : decode cL_write 48 = .ok (.invokevirtual 19, 3) := by decide +kernel
theorem dL_write_51 : decode cL_write 51 = .ok (.pop, 1) := by decide +kernel
theorem dL_write_52 : decode cL_write 52 = .ok (.iconst 0, 1) := by decide +kernel
theorem dL_write_53 : decode cL_write 53 = .ok (.istore 5, 2) := by decide +kernel
theorem dL_write_55 : decode cL_write 55 = .ok (.iload 5, 2) := by decide +kernel
theorem dL_write_57 : decode cL_write 57 = .ok (.iconst 4, 1) := by decide +kernel
theorem dL_write_58 : decode cL_write 58 = .ok (.if_icmp .ge 27, 3) := by decide +kernel
theorem dL_write_61 : decode cL_write 61 = .ok (.aload_n 0, 1) := by decide +kernel
theorem dL_write_62 : decode cL_write 62 = .ok (.iload_n 3, 1) := by decide +kernel
theorem dL_write_63 : decode cL_write 63 = .ok (.iload 5, 2) := by decide +kernel
theorem dL_write_65 : decode cL_write 65 = .ok (.iload 4, 2) := by decide +kernel
theorem dL_write_67 : decode cL_write 67 = .ok (.iload 5, 2) := by decide +kernel
theorem dL_write_69 : decode cL_write 69 = .ok (.ishr, 1) := by decide +kernel
theorem dL_write_70 : decode cL_write 70 = .ok (.bipush 10, 2) := by decide +kernel
theorem dL_write_72 : decode cL_write 72 = .ok (.invokestatic 15, 3) := by decide +kernel
theorem dL_write_75 : decode cL_write 75 = .ok (.invokevirtual 25, 3) := by decide +kernel
theorem dL_write_78 : decode cL_write 78 = .ok (.pop, 1) := by decide +kernel
theorem dL_write_79 : decode cL_write 79 = .ok (.iinc 5 1, 3) := by decide +kernel
theorem dL_write_82 : decode cL_write 82 = .ok (.goto (-27), 3) := by decide +kernel
theorem dL_write_85 : decode cL_write 85 = .ok (.aload_n 0, 1) := by decide +kernel
theorem dL_write_86 : decode cL_write 86 = .ok (.iload_n 3, 1) := by decide +kernel
theorem dL_write_87 : decode cL_write 87 = .ok (.iload 4, 2) := by decide +kernel
theorem dL_write_89 : decode cL_write 89 = .ok (.iconst 2, 1) := by decide +kernel
theorem dL_write_90 : decode cL_write 90 = .ok (.ishr, 1) := by decide +kernel
theorem dL_write_91 : decode cL_write 91 = .ok (.bipush 100, 2) := by decide +kernel
theorem dL_write_93 : decode cL_write 93 = .ok (.invokestatic 15, 3) := by decide +kernel
theorem dL_write_96 : decode cL_write 96 = .ok (.invokevirtual 29, 3) := by decide +kernel
theorem dL_write_99 : decode cL_write 99 = .ok (.pop, 1) := by decide +kernel
theorem dL_write_100 : decode cL_write 100 = .ok (.iinc 3 1, 3) := by decide +kernel
theorem dL_write_103 : decode cL_write 103 = .ok (.goto (-101), 3) := by decide +kernel
theorem dL_write_106 : decode cL_write 106 = .ok (.iconst 0, 1) := by decide +kernel
theorem dL_write_107 : decode cL_write 107 = .ok (.istore_n 3, 1) := by decide +kernel
theorem dL_write_108 : decode cL_write 108 = .ok (.iload_n 3, 1) := by decide +kernel
theorem dL_write_109 : decode cL_write 109 = .ok (.iconst 4, 1) := by decide +kernel
theorem dL_write_110 : decode cL_write 110 = .ok (.if_icmp .ge 73, 3) := by decide +kernel
theorem dL_write_113 : decode cL_write 113 = .ok (.aload_n 0, 1) := by decide +kernel
theorem dL_write_114 : decode cL_write 114 = .ok (.aload_n 1, 1) := by decide +kernel
theorem dL_write_115 : decode cL_write 115 = .ok (.iload_n 3, 1) := by decide +kernel
theorem dL_write_116 : decode cL_write 116 = .ok (.iload_n 2, 1) := by decide +kernel
theorem dL_write_117 : decode cL_write 117 = .ok (.iadd, 1) := by decide +kernel
theorem dL_write_118 : decode cL_write 118 = .ok (.iconst 5, 1) := by decide +kernel
theorem dL_write_119 : decode cL_write 119 = .ok (.iadd, 1) := by decide +kernel
theorem dL_write_120 : decode cL_write 120 = .ok (.invokestatic 9, 3) := by decide +kernel
theorem dL_write_123 : decode cL_write 123 = .ok (.iconst 4, 1) := by decide +kernel
theorem dL_write_124 : decode cL_write 124 = .ok (.invokestatic 15, 3) := by decide +kernel
theorem dL_write_127 : decode cL_write 127 = .ok (.aload_n 1, 1) := by decide +kernel
theorem dL_write_128 : decode cL_write 128 = .ok (.iload_n 3, 1) := by decide +kernel
theorem dL_write_129 : decode cL_write 129 = .ok (.iload_n 2, 1) := by decide +kernel
theorem dL_write_130 : decode cL_write 130 = .ok (.iadd, 1) := by decide +kernel
theorem dL_write_131 : decode cL_write 131 = .ok (.bipush 6, 2) := by decide +kernel
theorem dL_write_133 : decode cL_write 133 = .ok (.iadd, 1) := by decide +kernel
theorem dL_write_134 : decode cL_write 134 = .ok (.invokestatic 9, 3) := by decide +kernel
theorem dL_write_137 : decode cL_write 137 = .ok (.iconst 5, 1) := by decide +kernel
theorem dL_write_138 : decode cL_write 138 = .ok (.invokestatic 15, 3) := by decide +kernel
theorem dL_write_141 : decode cL_write 141 = .ok (.aload_n 1, 1) := by decide +kernel
theorem dL_write_142 : decode cL_write 142 = .ok (.iload_n 3, 1) := by decide +kernel
theorem dL_write_143 : decode cL_write 143 = .ok (.iload_n 2, 1) := by decide +kernel
theorem dL_write_144 : decode cL_write 144 = .ok (.iadd, 1) := by decide +kernel
theorem dL_write_145 : decode cL_write 145 = .ok (.bipush 7, 2) := by decide +kernel
theorem dL_write_147 : decode cL_write 147 = .ok (.iadd, 1) := by decide +kernel
theorem dL_write_148 : decode cL_write 148 = .ok (.invokestatic 9, 3) := by decide +kernel
theorem dL_write_151 : decode cL_write 151 = .ok (.bipush 100, 2) := by decide +kernel
theorem dL_write_153 : decode cL_write 153 = .ok (.invokestatic 15, 3) := by decide +kernel
theorem dL_write_156 : decode cL_write 156 = .ok (.iconst 1, 1) := by decide +kernel
theorem dL_write_157 : decode cL_write 157 = .ok (.aload_n 1, 1) := by decide +kernel
theorem dL_write_158 : decode cL_write 158 = .ok (.iload_n 3, 1) := by decide +kernel
theorem dL_write_159 : decode cL_write 159 = .ok (.iload_n 2, 1) := by decide +kernel
theorem dL_write_160 : decode cL_write 160 = .ok (.iadd, 1) := by decide +kernel
theorem dL_write_161 : decode cL_write 161 = .ok (.bipush 8, 2) := by decide +kernel
theorem dL_write_163 : decode cL_write 163 = .ok (.iadd, 1) := by decide +kernel
theorem dL_write_164 : decode cL_write 164 = .ok (.invokestatic 9, 3) := by decide +kernel
theorem dL_write_167 : decode cL_write 167 = .ok (.bipush 12, 2) := by decide +kernel
theorem dL_write_169 : decode cL_write 169 = .ok (.invokestatic 15, 3) := by decide +kernel
theorem dL_write_172 : decode cL_write 172 = .ok (.iadd, 1) := by decide +kernel
theorem dL_write_173 : decode cL_write 173 = .ok (.invokevirtual 32, 3) := by decide +kernel
theorem dL_write_176 : decode cL_write 176 = .ok (.pop, 1) := by decide +kernel
theorem dL_write_177 : decode cL_write 177 = .ok (.iinc 3 1, 3) := by decide +kernel
theorem dL_write_180 : decode cL_write 180 = .ok (.goto (-72), 3) := by decide +kernel
theorem dL_write_183 : decode cL_write 183 = .ok (.iconst 0, 1) := by decide +kernel
theorem dL_write_184 : decode cL_write 184 = .ok (.istore_n 3, 1) := by decide +kernel
theorem dL_write_185 : decode cL_write 185 = .ok (.iload_n 3, 1) := by decide +kernel
theorem dL_write_186 : decode cL_write 186 = .ok (.bipush 8, 2) := by decide +kernel
theorem dL_write_188 : decode cL_write 188 = .ok (.if_icmp .ge 90, 3) := by decide +kernel
theorem dL_write_191 : decode cL_write 191 = .ok (.aload_n 1, 1) := by decide +kernel
theorem dL_write_192 : decode cL_write 192 = .ok (.iload_n 3, 1) := by decide +kernel
theorem dL_write_193 : decode cL_write 193 = .ok (.iload_n 2, 1) := by decide +kernel
theorem dL_write_194 : decode cL_write 194 = .ok (.iadd, 1) := by decide +kernel
theorem dL_write_195 : decode cL_write 195 = .ok (.bipush 9, 2) := by decide +kernel
theorem dL_write_197 : decode cL_write 197 = .ok (.iadd, 1) := by decide +kernel
theorem dL_write_198 : decode cL_write 198 = .ok (.invokestatic 9, 3) := by decide +kernel
theorem dL_write_201 : decode cL_write 201 = .ok (.istore 4, 2) := by decide +kernel
theorem dL_write_203 : decode cL_write 203 = .ok (.aload_n 0, 1) := by decide +kernel
theorem dL_write_204 : decode cL_write 204 = .ok (.aload_n 0, 1) := by decide +kernel
theorem dL_write_205 : decode cL_write 205 = .ok (.iload_n 3, 1) := by decide +kernel
theorem dL_write_206 : decode cL_write 206 = .ok (.iconst 4, 1) := by decide +kernel
theorem dL_write_207 : decode cL_write 207 = .ok (.irem, 1) := by decide +kernel
theorem dL_write_208 : decode cL_write 208 = .ok (.iconst 0, 1) := by decide +kernel
theorem dL_write_209 : decode cL_write 209 = .ok (.invokevirtual 36, 3) := by decide +kernel
theorem dL_write_212 : decode cL_write 212 = .ok (.iconst 1, 1) := by decide +kernel
theorem dL_write_213 : decode cL_write 213 = .ok (.iload 4, 2) := by decide +kernel
theorem dL_write_215 : decode cL_write 215 = .ok (.bipush 90, 2) := by decide +kernel
theorem dL_write_217 : decode cL_write 217 = .ok (.invokestatic 15, 3) := by decide +kernel
theorem dL_write_220 : decode cL_write 220 = .ok (.iadd, 1) := by decide +kernel
theorem dL_write_221 : decode cL_write 221 = .ok (.iconst 1, 1) := by decide +kernel
theorem dL_write_222 : decode cL_write 222 = .ok (.iload 4, 2) := by decide +kernel
theorem dL_write_224 : decode cL_write 224 = .ok (.iconst 1, 1) := by decide +kernel
theorem dL_write_225 : decode cL_write 225 = .ok (.ishr, 1) := by decide +kernel
theorem dL_write_226 : decode cL_write 226 = .ok (.iconst 5, 1) := by decide +kernel
theorem dL_write_227 : decode cL_write 227 = .ok (.invokestatic 15, 3) := by decide +kernel
theorem dL_write_230 : decode cL_write 230 = .ok (.iadd, 1) := by decide +kernel
theorem dL_write_231 : decode cL_write 231 = .ok (.invokevirtual 39, 3) := by decide +kernel
theorem dL_write_234 : decode cL_write 234 = .ok (.pop, 1) := by decide +kernel
theorem dL_write_235 : decode cL_write 235 = .ok (.iload 4, 2) := by decide +kernel
theorem dL_write_237 : decode cL_write 237 = .ok (.iconst 2, 1) := by decide +kernel
theorem dL_write_238 : decode cL_write 238 = .ok (.ishr, 1) := by decide +kernel
theorem dL_write_239 : decode cL_write 239 = .ok (.iconst 4, 1) := by decide +kernel
theorem dL_write_240 : decode cL_write 240 = .ok (.invokestatic 15, 3) := by decide +kernel
theorem dL_write_243 : decode cL_write 243 = .ok (.ifCond .le 12, 3) := by decide +kernel
theorem dL_write_246 : decode cL_write 246 = .ok (.aload_n 0, 1) := by decide +kernel
theorem dL_write_247 : decode cL_write 247 = .ok (.iload_n 3, 1) := by decide +kernel
theorem dL_write_248 : decode cL_write 248 = .ok (.iload_n 3, 1) := by decide +kernel
theorem dL_write_249 : decode cL_write 249 = .ok (.iconst 4, 1) := by decide +kernel
theorem dL_write_250 : decode cL_write 250 = .ok (.irem, 1) := by decide +kernel
theorem dL_write_251 : decode cL_write 251 = .ok (.invokevirtual 42, 3) := by decide +kernel
theorem dL_write_254 : decode cL_write 254 = .ok (.pop, 1) := by decide +kernel
theorem dL_write_255 : decode cL_write 255 = .ok (.iload 4, 2) := by decide +kernel
theorem dL_write_257 : decode cL_write 257 = .ok (.iconst 3, 1) := by decide +kernel
theorem dL_write_258 : decode cL_write 258 = .ok (.ishr, 1) := by decide +kernel
theorem dL_write_259 : decode cL_write 259 = .ok (.iconst 4, 1) := by decide +kernel
theorem dL_write_260 : decode cL_write 260 = .ok (.invokestatic 15, 3) := by decide +kernel
theorem dL_write_263 : decode cL_write 263 = .ok (.ifCond .le 9, 3) := by decide +kernel
theorem dL_write_266 : decode cL_write 266 = .ok (.aload_n 0, 1) := by decide +kernel
theorem dL_write_267 : decode cL_write 267 = .ok (.iload_n 3, 1) := by decide +kernel
theorem dL_write_268 : decode cL_write 268 = .ok (.invokevirtual 45, 3) := by decide +kernel
theorem dL_write_271 : decode cL_write 271 = .ok (.pop, 1) := by decide +kernel
theorem dL_write_272 : decode cL_write 272 = .ok (.iinc 3 1, 3) := by decide +kernel
theorem dL_write_275 : decode cL_write 275 = .ok (.goto (-90), 3) := by decide +kernel
theorem dL_write_278 : decode cL_write 278 = .ok (.return_, 1) := by decide +kernel
theorem dL_ready_0 : decode cL_ready 0 = .ok (.iconst 0, 1) := by decide +kernel
theorem dL_ready_1 : decode cL_ready 1 = .ok (.istore_n 2, 1) := by decide +kernel
theorem dL_ready_2 : decode cL_ready 2 = .ok (.iload_n 2, 1) := by decide +kernel
theorem dL_ready_3 : decode cL_ready 3 = .ok (.bipush 6, 2) := by decide +kernel
theorem dL_ready_5 : decode cL_ready 5 = .ok (.if_icmp .ge 41, 3) := by decide +kernel
theorem dL_ready_8 : decode cL_ready 8 = .ok (.aload_n 0, 1) := by decide +kernel
theorem dL_ready_9 : decode cL_ready 9 = .ok (.iload_n 1, 1) := by decide +kernel
theorem dL_ready_10 : decode cL_ready 10 = .ok (.bipush 8, 2) := by decide +kernel
theorem dL_ready_12 : decode cL_ready 12 = .ok (.invokevirtual 36, 3) := by decide +kernel
theorem dL_ready_15 : decode cL_ready 15 = .ok (.iconst 4, 1) := by decide +kernel
theorem dL_ready_16 : decode cL_ready 16 = .ok (.if_icmp .ge 30, 3) := by decide +kernel
theorem dL_ready_19 : decode cL_ready 19 = .ok (.aload_n 0, 1) := by decide +kernel
theorem dL_ready_20 : decode cL_ready 20 = .ok (.aload_n 0, 1) := by decide +kernel
theorem dL_ready_21 : decode cL_ready 21 = .ok (.iload_n 1, 1) := by decide +kernel
theorem dL_ready_22 : decode cL_ready 22 = .ok (.iconst 1, 1) := by decide +kernel
theorem dL_ready_23 : decode cL_ready 23 = .ok (.invokevirtual 36, 3) := by decide +kernel
theorem dL_ready_26 : decode cL_ready 26 = .ok (.bipush 8, 2) := by decide +kernel
theorem dL_ready_28 : decode cL_ready 28 = .ok (.invokevirtual 49, 3) := by decide +kernel
theorem dL_ready_31 : decode cL_ready 31 = .ok (.ifCond .ne 15, 3) := by decide +kernel
theorem dL_ready_34 : decode cL_ready 34 = .ok (.aload_n 0, 1) := by decide +kernel
theorem dL_ready_35 : decode cL_ready 35 = .ok (.iload_n 1, 1) := by decide +kernel
theorem dL_ready_36 : decode cL_ready 36 = .ok (.invokevirtual 52, 3) := by decide +kernel
theorem dL_ready_39 : decode cL_ready 39 = .ok (.pop, 1) := by decide +kernel
theorem dL_ready_40 : decode cL_ready 40 = .ok (.iinc 2 1, 3) := by decide +kernel
theorem dL_ready_43 : decode cL_ready 43 = .ok (.goto (-41), 3) := by decide +kernel
theorem dL_ready_46 : decode cL_ready 46 = .ok (.iconst 0, 1) := by decide +kernel
theorem dL_ready_47 : decode cL_ready 47 = .ok (.istore_n 2, 1) := by decide +kernel
theorem dL_ready_48 : decode cL_ready 48 = .ok (.iload_n 2, 1) := by decide +kernel
theorem dL_ready_49 : decode cL_ready 49 = .ok (.iconst 3, 1) := by decide +kernel
theorem dL_ready_50 : decode cL_ready 50 = .ok (.if_icmp .ge 41, 3) := by decide +kernel
theorem dL_ready_53 : decode cL_ready 53 = .ok (.aload_n 0, 1) := by decide +kernel
theorem dL_ready_54 : decode cL_ready 54 = .ok (.iload_n 1, 1) := by decide +kernel
theorem dL_ready_55 : decode cL_ready 55 = .ok (.bipush 8, 2) := by decide +kernel
theorem dL_ready_57 : decode cL_ready 57 = .ok (.invokevirtual 36, 3) := by decide +kernel
theorem dL_ready_60 : decode cL_ready 60 = .ok (.iconst 4, 1) := by decide +kernel
theorem dL_ready_61 : decode cL_ready 61 = .ok (.if_icmp .ne 24, 3) := by decide +kernel
theorem dL_ready_64 : decode cL_ready 64 = .ok (.aload_n 0, 1) := by decide +kernel
theorem dL_ready_65 : decode cL_ready 65 = .ok (.iload_n 1, 1) := by decide +kernel
theorem dL_ready_66 : decode cL_ready 66 = .ok (.bipush 9, 2) := by decide +kernel
theorem dL_ready_68 : decode cL_ready 68 = .ok (.invokevirtual 36, 3) := by decide +kernel
theorem dL_ready_71 : decode cL_ready 71 = .ok (.iload_n 2, 1) := by decide +kernel
theorem dL_ready_72 : decode cL_ready 72 = .ok (.ishr, 1) := by decide +kernel
theorem dL_ready_73 : decode cL_ready 73 = .ok (.iconst 1, 1) := by decide +kernel
theorem dL_ready_74 : decode cL_ready 74 = .ok (.iand, 1) := by decide +kernel
theorem dL_ready_75 : decode cL_ready 75 = .ok (.ifCond .ne 10, 3) := by decide +kernel
theorem dL_ready_78 : decode cL_ready 78 = .ok (.aload_n 0, 1) := by decide +kernel
theorem dL_ready_79 : decode cL_ready 79 = .ok (.iload_n 1, 1) := by decide +kernel
theorem dL_ready_80 : decode cL_ready 80 = .ok (.iload_n 2, 1) := by decide +kernel
theorem dL_ready_81 : decode cL_ready 81 = .ok (.invokevirtual 55, 3) := by decide +kernel
theorem dL_ready_84 : decode cL_ready 84 = .ok (.pop, 1) := by decide +kernel
theorem dL_ready_85 : decode cL_ready 85 = .ok (.iinc 2 1, 3) := by decide +kernel
theorem dL_ready_88 : decode cL_ready 88 = .ok (.goto (-40), 3) := by decide +kernel
theorem dL_ready_91 : decode cL_ready 91 = .ok (.return_, 1) := by decide +kernel
theorem dL_law_0 : decode cL_law 0 = .ok (.new 20, 3) := by decide +kernel
theorem dL_law_3 : decode cL_law 3 = .ok (.dup, 1) := by decide +kernel
theorem dL_law_4 : decode cL_law 4 = .ok (.invokespecial 58, 3) := by decide +kernel
theorem dL_law_7 : decode cL_law 7 = .ok (.astore_n 1, 1) := by decide +kernel
theorem dL_law_8 : decode cL_law 8 = .ok (.aload_n 1, 1) := by decide +kernel
theorem dL_law_9 : decode cL_law 9 = .ok (.aload_n 0, 1) := by decide +kernel
theorem dL_law_10 : decode cL_law 10 = .ok (.iconst 5, 1) := by decide +kernel
theorem dL_law_11 : decode cL_law 11 = .ok (.invokestatic 59, 3) := by decide +kernel
theorem dL_law_14 : decode cL_law 14 = .ok (.bipush 8, 2) := by decide +kernel
theorem dL_law_16 : decode cL_law 16 = .ok (.newarray .int, 2) := by decide +kernel
theorem dL_law_18 : decode cL_law 18 = .ok (.astore_n 2, 1) := by decide +kernel
theorem dL_law_19 : decode cL_law 19 = .ok (.iconst 0, 1) := by decide +kernel
theorem dL_law_20 : decode cL_law 20 = .ok (.istore_n 3, 1) := by decide +kernel
theorem dL_law_21 : decode cL_law 21 = .ok (.iload_n 3, 1) := by decide +kernel
theorem dL_law_22 : decode cL_law 22 = .ok (.bipush 8, 2) := by decide +kernel
theorem dL_law_24 : decode cL_law 24 = .ok (.if_icmp .ge 18, 3) := by decide +kernel
theorem dL_law_27 : decode cL_law 27 = .ok (.aload_n 2, 1) := by decide +kernel
theorem dL_law_28 : decode cL_law 28 = .ok (.iload_n 3, 1) := by decide +kernel
theorem dL_law_29 : decode cL_law 29 = .ok (.aload_n 1, 1) := by decide +kernel
theorem dL_law_30 : decode cL_law 30 = .ok (.iload_n 3, 1) := by decide +kernel
theorem dL_law_31 : decode cL_law 31 = .ok (.iconst 2, 1) := by decide +kernel
theorem dL_law_32 : decode cL_law 32 = .ok (.invokevirtual 63, 3) := by decide +kernel
theorem dL_law_35 : decode cL_law 35 = .ok (.iastore, 1) := by decide +kernel
theorem dL_law_36 : decode cL_law 36 = .ok (.iinc 3 1, 3) := by decide +kernel
theorem dL_law_39 : decode cL_law 39 = .ok (.goto (-18), 3) := by decide +kernel
theorem dL_law_42 : decode cL_law 42 = .ok (.iconst 0, 1) := by decide +kernel
theorem dL_law_43 : decode cL_law 43 = .ok (.istore_n 3, 1) := by decide +kernel
theorem dL_law_44 : decode cL_law 44 = .ok (.iload_n 3, 1) := by decide +kernel
theorem dL_law_45 : decode cL_law 45 = .ok (.bipush 36, 2) := by decide +kernel
theorem dL_law_47 : decode cL_law 47 = .ok (.if_icmp .ge 389, 3) := by decide +kernel
theorem dL_law_50 : decode cL_law 50 = .ok (.aload_n 0, 1) := by decide +kernel
theorem dL_law_51 : decode cL_law 51 = .ok (.iload_n 3, 1) := by decide +kernel
theorem dL_law_52 : decode cL_law 52 = .ok (.bipush 16, 2) := by decide +kernel
theorem dL_law_54 : decode cL_law 54 = .ok (.irem, 1) := by decide +kernel
theorem dL_law_55 : decode cL_law 55 = .ok (.invokestatic 9, 3) := by decide +kernel
theorem dL_law_58 : decode cL_law 58 = .ok (.bipush 47, 2) := by decide +kernel
theorem dL_law_60 : decode cL_law 60 = .ok (.iload_n 3, 1) := by decide +kernel
theorem dL_law_61 : decode cL_law 61 = .ok (.imul, 1) := by decide +kernel
theorem dL_law_62 : decode cL_law 62 = .ok (.iadd, 1) := by decide +kernel
theorem dL_law_63 : decode cL_law 63 = .ok (.istore 4, 2) := by decide +kernel
theorem dL_law_65 : decode cL_law 65 = .ok (.iload 4, 2) := by decide +kernel
theorem dL_law_67 : decode cL_law 67 = .ok (.iconst 1, 1) := by decide +kernel
theorem dL_law_68 : decode cL_law 68 = .ok (.ishr, 1) := by decide +kernel
theorem dL_law_69 : decode cL_law 69 = .ok (.iconst 4, 1) := by decide +kernel
theorem dL_law_70 : decode cL_law 70 = .ok (.invokestatic 15, 3) := by decide +kernel
theorem dL_law_73 : decode cL_law 73 = .ok (.istore 5, 2) := by decide +kernel
theorem dL_law_75 : decode cL_law 75 = .ok (.iload 4, 2) := by decide +kernel
theorem dL_law_77 : decode cL_law 77 = .ok (.iconst 2, 1) := by decide +kernel
theorem dL_law_78 : decode cL_law 78 = .ok (.ishr, 1) := by decide +kernel
theorem dL_law_79 : decode cL_law 79 = .ok (.iconst 5, 1) := by decide +kernel
theorem dL_law_80 : decode cL_law 80 = .ok (.invokestatic 15, 3) := by decide +kernel
theorem dL_law_83 : decode cL_law 83 = .ok (.istore 6, 2) := by decide +kernel
theorem dL_law_85 : decode cL_law 85 = .ok (.iload 4, 2) := by decide +kernel
theorem dL_law_87 : decode cL_law 87 = .ok (.bipush 11, 2) := by decide +kernel
theorem dL_law_89 : decode cL_law 89 = .ok (.invokestatic 15, 3) := by decide +kernel
theorem dL_law_92 : decode cL_law 92 = .ok (.tableswitch 247 0 10 #[60, 87, 109, 128, 157, 192, 220, 247, 60, 60, 60], 60) := by decide +kernel
theorem dL_law_152 : decode cL_law 152 = .ok (.aload_n 1, 1) := by decide +kernel
theorem dL_law_153 : decode cL_law 153 = .ok (.iload 5, 2) := by decide +kernel
theorem dL_law_155 : decode cL_law 155 = .ok (.bipush 11, 2) := by decide +kernel
theorem dL_law_157 : decode cL_law 157 = .ok (.invokevirtual 36, 3) := by decide +kernel
theorem dL_law_160 : decode cL_law 160 = .ok (.ifCond .ne 208, 3) := by decide +kernel
theorem dL_law_163 : decode cL_law 163 = .ok (.aload_n 1, 1) := by decide +kernel
theorem dL_law_164 : decode cL_law 164 = .ok (.iload 5, 2) := by decide +kernel
theorem dL_law_166 : decode cL_law 166 = .ok (.invokestatic 66, 3) := by decide +kernel
theorem dL_law_169 : decode cL_law 169 = .ok (.aload_n 1, 1) := by decide +kernel
theorem dL_law_170 : decode cL_law 170 = .ok (.iload 5, 2) := by decide +kernel
theorem dL_law_172 : decode cL_law 172 = .ok (.invokevirtual 70, 3) := by decide +kernel
theorem dL_law_175 : decode cL_law 175 = .ok (.pop, 1) := by decide +kernel
theorem dL_law_176 : decode cL_law 176 = .ok (.goto 192, 3) := by decide +kernel
theorem dL_law_179 : decode cL_law 179 = .ok (.aload_n 1, 1) := by decide +kernel
theorem dL_law_180 : decode cL_law 180 = .ok (.iload 5, 2) := by decide +kernel
theorem dL_law_182 : decode cL_law 182 = .ok (.bipush 11, 2) := by decide +kernel
theorem dL_law_184 : decode cL_law 184 = .ok (.invokevirtual 36, 3) := by decide +kernel
theorem dL_law_187 : decode cL_law 187 = .ok (.iconst 1, 1) := by decide +kernel
theorem dL_law_188 : decode cL_law 188 = .ok (.if_icmp .ne 180, 3) := by decide +kernel
theorem dL_law_191 : decode cL_law 191 = .ok (.aload_n 1, 1) := by decide +kernel
theorem dL_law_192 : decode cL_law 192 = .ok (.iload 5, 2) := by decide +kernel
theorem dL_law_194 : decode cL_law 194 = .ok (.invokevirtual 73, 3) := by decide +kernel
theorem dL_law_197 : decode cL_law 197 = .ok (.pop, 1) := by decide +kernel
theorem dL_law_198 : decode cL_law 198 = .ok (.goto 170, 3) := by decide +kernel
theorem dL_law_201 : decode cL_law 201 = .ok (.aload_n 1, 1) := by decide +kernel
theorem dL_law_202 : decode cL_law 202 = .ok (.iload 6, 2) := by decide +kernel
theorem dL_law_204 : decode cL_law 204 = .ok (.iload 4, 2) := by decide +kernel
theorem dL_law_206 : decode cL_law 206 = .ok (.iconst 3, 1) := by decide +kernel
theorem dL_law_207 : decode cL_law 207 = .ok (.ishr, 1) := by decide +kernel
theorem dL_law_208 : decode cL_law 208 = .ok (.bipush 100, 2) := by decide +kernel
theorem dL_law_210 : decode cL_law 210 = .ok (.invokestatic 15, 3) := by decide +kernel
theorem dL_law_213 : decode cL_law 213 = .ok (.invokevirtual 29, 3) := by decide +kernel
theorem dL_law_216 : decode cL_law 216 = .ok (.pop, 1) := by decide +kernel
theorem dL_law_217 : decode cL_law 217 = .ok (.goto 151, 3) := by decide +kernel
theorem dL_law_220 : decode cL_law 220 = .ok (.aload_n 1, 1) := by decide +kernel
theorem dL_law_221 : decode cL_law 221 = .ok (.iload 6, 2) := by decide +kernel
theorem dL_law_223 : decode cL_law 223 = .ok (.iload 5, 2) := by decide +kernel
theorem dL_law_225 : decode cL_law 225 = .ok (.iload 4, 2) := by decide +kernel
theorem dL_law_227 : decode cL_law 227 = .ok (.bipush 6, 2) := by decide +kernel
theorem dL_law_229 : decode cL_law 229 = .ok (.ishr, 1) := by decide +kernel
theorem dL_law_230 : decode cL_law 230 = .ok (.iconst 2, 1) := by decide +kernel
theorem dL_law_231 : decode cL_law 231 = .ok (.invokestatic 15, 3) := by decide +kernel
theorem dL_law_234 : decode cL_law 234 = .ok (.ifCond .ne 7, 3) := by decide +kernel
theorem dL_law_237 : decode cL_law 237 = .ok (.iconst 1, 1) := by decide +kernel
theorem dL_law_238 : decode cL_law 238 = .ok (.goto 4, 3) := by decide +kernel
theorem dL_law_241 : decode cL_law 241 = .ok (.iconst 0, 1) := by decide +kernel
theorem dL_law_242 : decode cL_law 242 = .ok (.invokevirtual 76, 3) := by decide +kernel
theorem dL_law_245 : decode cL_law 245 = .ok (.pop, 1) := by decide +kernel
theorem dL_law_246 : decode cL_law 246 = .ok (.goto 122, 3) := by decide +kernel
theorem dL_law_249 : decode cL_law 249 = .ok (.aload_n 1, 1) := by decide +kernel
theorem dL_law_250 : decode cL_law 250 = .ok (.iload 4, 2) := by decide +kernel
theorem dL_law_252 : decode cL_law 252 = .ok (.bipush 6, 2) := by decide +kernel
theorem dL_law_254 : decode cL_law 254 = .ok (.ishr, 1) := by decide +kernel
theorem dL_law_255 : decode cL_law 255 = .ok (.bipush 8, 2) := by decide +kernel
theorem dL_law_257 : decode cL_law 257 = .ok (.invokestatic 15, 3) := by decide +kernel
theorem dL_law_260 : decode cL_law 260 = .ok (.iload 4, 2) := by decide +kernel
theorem dL_law_262 : decode cL_law 262 = .ok (.bipush 9, 2) := by decide +kernel
theorem dL_law_264 : decode cL_law 264 = .ok (.ishr, 1) := by decide +kernel
theorem dL_law_265 : decode cL_law 265 = .ok (.iconst 4, 1) := by decide +kernel
theorem dL_law_266 : decode cL_law 266 = .ok (.invokestatic 15, 3) := by decide +kernel
theorem dL_law_269 : decode cL_law 269 = .ok (.ifCond .le 7, 3) := by decide +kernel
theorem dL_law_272 : decode cL_law 272 = .ok (.iconst 1, 1) := by decide +kernel
theorem dL_law_273 : decode cL_law 273 = .ok (.goto 4, 3) := by decide +kernel
theorem dL_law_276 : decode cL_law 276 = .ok (.iconst 0, 1) := by decide +kernel
theorem dL_law_277 : decode cL_law 277 = .ok (.invokevirtual 80, 3) := by decide +kernel
theorem dL_law_280 : decode cL_law 280 = .ok (.pop, 1) := by decide +kernel
theorem dL_law_281 : decode cL_law 281 = .ok (.goto 87, 3) := by decide +kernel
theorem dL_law_284 : decode cL_law 284 = .ok (.aload_n 1, 1) := by decide +kernel
theorem dL_law_285 : decode cL_law 285 = .ok (.iload 6, 2) := by decide +kernel
theorem dL_law_287 : decode cL_law 287 = .ok (.iload 4, 2) := by decide +kernel
theorem dL_law_289 : decode cL_law 289 = .ok (.bipush 6, 2) := by decide +kernel
theorem dL_law_291 : decode cL_law 291 = .ok (.ishr, 1) := by decide +kernel
theorem dL_law_292 : decode cL_law 292 = .ok (.iconst 4, 1) := by decide +kernel
theorem dL_law_293 : decode cL_law 293 = .ok (.invokestatic 15, 3) := by decide +kernel
theorem dL_law_296 : decode cL_law 296 = .ok (.iload 4, 2) := by decide +kernel
theorem dL_law_298 : decode cL_law 298 = .ok (.iconst 4, 1) := by decide +kernel
theorem dL_law_299 : decode cL_law 299 = .ok (.ishr, 1) := by decide +kernel
theorem dL_law_300 : decode cL_law 300 = .ok (.bipush 10, 2) := by decide +kernel
theorem dL_law_302 : decode cL_law 302 = .ok (.invokestatic 15, 3) := by decide +kernel
theorem dL_law_305 : decode cL_law 305 = .ok (.invokevirtual 25, 3) := by decide +kernel
theorem dL_law_308 : decode cL_law 308 = .ok (.pop, 1) := by decide +kernel
theorem dL_law_309 : decode cL_law 309 = .ok (.goto 59, 3) := by decide +kernel
theorem dL_law_312 : decode cL_law 312 = .ok (.aload_n 1, 1) := by decide +kernel
theorem dL_law_313 : decode cL_law 313 = .ok (.bipush 7, 2) := by decide +kernel
theorem dL_law_315 : decode cL_law 315 = .ok (.invokevirtual 84, 3) := by decide +kernel
theorem dL_law_318 : decode cL_law 318 = .ok (.ifCond .ne 50, 3) := by decide +kernel
theorem dL_law_321 : decode cL_law 321 = .ok (.aload_n 1, 1) := by decide +kernel
theorem dL_law_322 : decode cL_law 322 = .ok (.iconst 1, 1) := by decide +kernel
theorem dL_law_323 : decode cL_law 323 = .ok (.iload 4, 2) := by decide +kernel
theorem dL_law_325 : decode cL_law 325 = .ok (.iconst 3, 1) := by decide +kernel
theorem dL_law_326 : decode cL_law 326 = .ok (.ishr, 1) := by decide +kernel
theorem dL_law_327 : decode cL_law 327 = .ok (.iconst 3, 1) := by decide +kernel
theorem dL_law_328 : decode cL_law 328 = .ok (.invokestatic 15, 3) := by decide +kernel
theorem dL_law_331 : decode cL_law 331 = .ok (.iadd, 1) := by decide +kernel
theorem dL_law_332 : decode cL_law 332 = .ok (.invokevirtual 87, 3) := by decide +kernel
theorem dL_law_335 : decode cL_law 335 = .ok (.pop, 1) := by decide +kernel
theorem dL_law_336 : decode cL_law 336 = .ok (.goto 32, 3) := by decide +kernel
theorem dL_law_339 : decode cL_law 339 = .ok (.aload_n 1, 1) := by decide +kernel
theorem dL_law_340 : decode cL_law 340 = .ok (.iload 5, 2) := by decide +kernel
theorem dL_law_342 : decode cL_law 342 = .ok (.iload 6, 2) := by decide +kernel
theorem dL_law_344 : decode cL_law 344 = .ok (.iload 4, 2) := by decide +kernel
theorem dL_law_346 : decode cL_law 346 = .ok (.iconst 3, 1) := by decide +kernel
theorem dL_law_347 : decode cL_law 347 = .ok (.ishr, 1) := by decide +kernel
theorem dL_law_348 : decode cL_law 348 = .ok (.bipush 100, 2) := by decide +kernel
theorem dL_law_350 : decode cL_law 350 = .ok (.invokestatic 15, 3) := by decide +kernel
theorem dL_law_353 : decode cL_law 353 = .ok (.iconst 1, 1) := by decide +kernel
theorem dL_law_354 : decode cL_law 354 = .ok (.iload 4, 2) := by decide +kernel
theorem dL_law_356 : decode cL_law 356 = .ok (.iconst 4, 1) := by decide +kernel
theorem dL_law_357 : decode cL_law 357 = .ok (.ishr, 1) := by decide +kernel
theorem dL_law_358 : decode cL_law 358 = .ok (.bipush 12, 2) := by decide +kernel
theorem dL_law_360 : decode cL_law 360 = .ok (.invokestatic 15, 3) := by decide +kernel
theorem dL_law_363 : decode cL_law 363 = .ok (.iadd, 1) := by decide +kernel
theorem dL_law_364 : decode cL_law 364 = .ok (.invokevirtual 90, 3) := by decide +kernel
theorem dL_law_367 : decode cL_law 367 = .ok (.pop, 1) := by decide +kernel
theorem dL_law_368 : decode cL_law 368 = .ok (.aload_n 1, 1) := by decide +kernel
theorem dL_law_369 : decode cL_law 369 = .ok (.invokestatic 93, 3) := by decide +kernel
theorem dL_law_372 : decode cL_law 372 = .ok (.ifCond .ne 5, 3) := by decide +kernel
theorem dL_law_375 : decode cL_law 375 = .ok (.iconst 0, 1) := by decide +kernel
theorem dL_law_376 : decode cL_law 376 = .ok (.ireturn, 1) := by decide +kernel
theorem dL_law_377 : decode cL_law 377 = .ok (.iconst 0, 1) := by decide +kernel
theorem dL_law_378 : decode cL_law 378 = .ok (.istore 7, 2) := by decide +kernel
theorem dL_law_380 : decode cL_law 380 = .ok (.iload 7, 2) := by decide +kernel
theorem dL_law_382 : decode cL_law 382 = .ok (.bipush 8, 2) := by decide +kernel
theorem dL_law_384 : decode cL_law 384 = .ok (.if_icmp .ge 46, 3) := by decide +kernel
theorem dL_law_387 : decode cL_law 387 = .ok (.aload_n 1, 1) := by decide +kernel
theorem dL_law_388 : decode cL_law 388 = .ok (.iload 7, 2) := by decide +kernel
theorem dL_law_390 : decode cL_law 390 = .ok (.iconst 2, 1) := by decide +kernel
theorem dL_law_391 : decode cL_law 391 = .ok (.invokevirtual 63, 3) := by decide +kernel
theorem dL_law_394 : decode cL_law 394 = .ok (.aload_n 2, 1) := by decide +kernel
theorem dL_law_395 : decode cL_law 395 = .ok (.iload 7, 2) := by decide +kernel
theorem dL_law_397 : decode cL_law 397 = .ok (.iaload, 1) := by decide +kernel
theorem dL_law_398 : decode cL_law 398 = .ok (.if_icmp .gt 13, 3) := by decide +kernel
theorem dL_law_401 : decode cL_law 401 = .ok (.aload_n 1, 1) := by decide +kernel
theorem dL_law_402 : decode cL_law 402 = .ok (.iload 7, 2) := by decide +kernel
theorem dL_law_404 : decode cL_law 404 = .ok (.iconst 2, 1) := by decide +kernel
theorem dL_law_405 : decode cL_law 405 = .ok (.invokevirtual 63, 3) := by decide +kernel
theorem dL_law_408 : decode cL_law 408 = .ok (.ifCond .ge 5, 3) := by decide +kernel
theorem dL_law_411 : decode cL_law 411 = .ok (.iconst 0, 1) := by decide +kernel
theorem dL_law_412 : decode cL_law 412 = .ok (.ireturn, 1) := by decide +kernel
theorem dL_law_413 : decode cL_law 413 = .ok (.aload_n 2, 1) := by decide +kernel
theorem dL_law_414 : decode cL_law 414 = .ok (.iload 7, 2) := by decide +kernel
theorem dL_law_416 : decode cL_law 416 = .ok (.aload_n 1, 1) := by decide +kernel
theorem dL_law_417 : decode cL_law 417 = .ok (.iload 7, 2) := by decide +kernel
theorem dL_law_419 : decode cL_law 419 = .ok (.iconst 2, 1) := by decide +kernel
theorem dL_law_420 : decode cL_law 420 = .ok (.invokevirtual 63, 3) := by decide +kernel
theorem dL_law_423 : decode cL_law 423 = .ok (.iastore, 1) := by decide +kernel
theorem dL_law_424 : decode cL_law 424 = .ok (.iinc 7 1, 3) := by decide +kernel
theorem dL_law_427 : decode cL_law 427 = .ok (.goto (-47), 3) := by decide +kernel
theorem dL_law_430 : decode cL_law 430 = .ok (.iinc 3 1, 3) := by decide +kernel
theorem dL_law_433 : decode cL_law 433 = .ok (.goto (-389), 3) := by decide +kernel
theorem dL_law_436 : decode cL_law 436 = .ok (.aload_n 1, 1) := by decide +kernel
theorem dL_law_437 : decode cL_law 437 = .ok (.invokevirtual 97, 3) := by decide +kernel
theorem dL_law_440 : decode cL_law 440 = .ok (.lstore_n 3, 1) := by decide +kernel
theorem dL_law_441 : decode cL_law 441 = .ok (.aload_n 1, 1) := by decide +kernel
theorem dL_law_442 : decode cL_law 442 = .ok (.iconst 0, 1) := by decide +kernel
theorem dL_law_443 : decode cL_law 443 = .ok (.invokevirtual 101, 3) := by decide +kernel
theorem dL_law_446 : decode cL_law 446 = .ok (.iconst (-1), 1) := by decide +kernel
theorem dL_law_447 : decode cL_law 447 = .ok (.if_icmp .lt 25, 3) := by decide +kernel
theorem dL_law_450 : decode cL_law 450 = .ok (.aload_n 1, 1) := by decide +kernel
theorem dL_law_451 : decode cL_law 451 = .ok (.iconst 1, 1) := by decide +kernel
theorem dL_law_452 : decode cL_law 452 = .ok (.invokevirtual 104, 3) := by decide +kernel
theorem dL_law_455 : decode cL_law 455 = .ok (.iconst (-1), 1) := by decide +kernel
theorem dL_law_456 : decode cL_law 456 = .ok (.if_icmp .lt 16, 3) := by decide +kernel
theorem dL_law_459 : decode cL_law 459 = .ok (.aload_n 1, 1) := by decide +kernel
theorem dL_law_460 : decode cL_law 460 = .ok (.invokevirtual 97, 3) := by decide +kernel
theorem dL_law_463 : decode cL_law 463 = .ok (.lload_n 3, 1) := by decide +kernel
theorem dL_law_464 : decode cL_law 464 = .ok (.lcmp, 1) := by decide +kernel
theorem dL_law_465 : decode cL_law 465 = .ok (.ifCond .ne 7, 3) := by decide +kernel
theorem dL_law_468 : decode cL_law 468 = .ok (.iconst 1, 1) := by decide +kernel
theorem dL_law_469 : decode cL_law 469 = .ok (.goto 4, 3) := by decide +kernel
theorem dL_law_472 : decode cL_law 472 = .ok (.iconst 0, 1) := by decide +kernel
theorem dL_law_473 : decode cL_law 473 = .ok (.ireturn, 1) := by decide +kernel
theorem dL_isSound_0 : decode cL_isSound 0 = .ok (.iconst 0, 1) := by decide +kernel
theorem dL_isSound_1 : decode cL_isSound 1 = .ok (.istore_n 1, 1) := by decide +kernel
theorem dL_isSound_2 : decode cL_isSound 2 = .ok (.iload_n 1, 1) := by decide +kernel
theorem dL_isSound_3 : decode cL_isSound 3 = .ok (.iconst 4, 1) := by decide +kernel
theorem dL_isSound_4 : decode cL_isSound 4 = .ok (.if_icmp .ge 103, 3) := by decide +kernel
theorem dL_isSound_7 : decode cL_isSound 7 = .ok (.aload_n 0, 1) := by decide +kernel
theorem dL_isSound_8 : decode cL_isSound 8 = .ok (.iload_n 1, 1) := by decide +kernel
theorem dL_isSound_9 : decode cL_isSound 9 = .ok (.bipush 11, 2) := by decide +kernel
theorem dL_isSound_11 : decode cL_isSound 11 = .ok (.invokevirtual 36, 3) := by decide +kernel
theorem dL_isSound_14 : decode cL_isSound 14 = .ok (.ifCond .ne 6, 3) := by decide +kernel
theorem dL_isSound_17 : decode cL_isSound 17 = .ok (.goto 84, 3) := by decide +kernel
theorem dL_isSound_20 : decode cL_isSound 20 = .ok (.aload_n 0, 1) := by decide +kernel
theorem dL_isSound_21 : decode cL_isSound 21 = .ok (.iload_n 1, 1) := by decide +kernel
theorem dL_isSound_22 : decode cL_isSound 22 = .ok (.bipush 8, 2) := by decide +kernel
theorem dL_isSound_24 : decode cL_isSound 24 = .ok (.invokevirtual 36, 3) := by decide +kernel
theorem dL_isSound_27 : decode cL_isSound 27 = .ok (.iconst 4, 1) := by decide +kernel
theorem dL_isSound_28 : decode cL_isSound 28 = .ok (.if_icmp .ne 41, 3) := by decide +kernel
theorem dL_isSound_31 : decode cL_isSound 31 = .ok (.aload_n 0, 1) := by decide +kernel
theorem dL_isSound_32 : decode cL_isSound 32 = .ok (.iload_n 1, 1) := by decide +kernel
theorem dL_isSound_33 : decode cL_isSound 33 = .ok (.bipush 9, 2) := by decide +kernel
theorem dL_isSound_35 : decode cL_isSound 35 = .ok (.invokevirtual 36, 3) := by decide +kernel
theorem dL_isSound_38 : decode cL_isSound 38 = .ok (.bipush 7, 2) := by decide +kernel
theorem dL_isSound_40 : decode cL_isSound 40 = .ok (.if_icmp .ne 29, 3) := by decide +kernel
theorem dL_isSound_43 : decode cL_isSound 43 = .ok (.aload_n 0, 1) := by decide +kernel
theorem dL_isSound_44 : decode cL_isSound 44 = .ok (.iload_n 1, 1) := by decide +kernel
theorem dL_isSound_45 : decode cL_isSound 45 = .ok (.bipush 10, 2) := by decide +kernel
theorem dL_isSound_47 : decode cL_isSound 47 = .ok (.invokevirtual 36, 3) := by decide +kernel
theorem dL_isSound_50 : decode cL_isSound 50 = .ok (.ifCond .ne 19, 3) := by decide +kernel
theorem dL_isSound_53 : decode cL_isSound 53 = .ok (.aload_n 0, 1) := by decide +kernel
theorem dL_isSound_54 : decode cL_isSound 54 = .ok (.aload_n 0, 1) := by decide +kernel
theorem dL_isSound_55 : decode cL_isSound 55 = .ok (.iload_n 1, 1) := by decide +kernel
theorem dL_isSound_56 : decode cL_isSound 56 = .ok (.iconst 1, 1) := by decide +kernel
theorem dL_isSound_57 : decode cL_isSound 57 = .ok (.invokevirtual 36, 3) := by decide +kernel
theorem dL_isSound_60 : decode cL_isSound 60 = .ok (.bipush 8, 2) := by decide +kernel
theorem dL_isSound_62 : decode cL_isSound 62 = .ok (.invokevirtual 49, 3) := by decide +kernel
theorem dL_isSound_65 : decode cL_isSound 65 = .ok (.iconst 1, 1) := by decide +kernel
theorem dL_isSound_66 : decode cL_isSound 66 = .ok (.if_icmp .ne 5, 3) := by decide +kernel
theorem dL_isSound_69 : decode cL_isSound 69 = .ok (.iconst 0, 1) := by decide +kernel
theorem dL_isSound_70 : decode cL_isSound 70 = .ok (.ireturn, 1) := by decide +kernel
theorem dL_isSound_71 : decode cL_isSound 71 = .ok (.iconst 0, 1) := by decide +kernel
theorem dL_isSound_72 : decode cL_isSound 72 = .ok (.istore_n 2, 1) := by decide +kernel
theorem dL_isSound_73 : decode cL_isSound 73 = .ok (.iload_n 2, 1) := by decide +kernel
theorem dL_isSound_74 : decode cL_isSound 74 = .ok (.iconst 5, 1) := by decide +kernel
theorem dL_isSound_75 : decode cL_isSound 75 = .ok (.if_icmp .ge 26, 3) := by decide +kernel
theorem dL_isSound_78 : decode cL_isSound 78 = .ok (.aload_n 0, 1) := by decide +kernel
theorem dL_isSound_79 : decode cL_isSound 79 = .ok (.iload_n 2, 1) := by decide +kernel
theorem dL_isSound_80 : decode cL_isSound 80 = .ok (.bipush 11, 2) := by decide +kernel
theorem dL_isSound_82 : decode cL_isSound 82 = .ok (.invokevirtual 49, 3) := by decide +kernel
theorem dL_isSound_85 : decode cL_isSound 85 = .ok (.iload_n 1, 1) := by decide +kernel
theorem dL_isSound_86 : decode cL_isSound 86 = .ok (.ishr, 1) := by decide +kernel
theorem dL_isSound_87 : decode cL_isSound 87 = .ok (.iconst 1, 1) := by decide +kernel
theorem dL_isSound_88 : decode cL_isSound 88 = .ok (.iand, 1) := by decide +kernel
theorem dL_isSound_89 : decode cL_isSound 89 = .ok (.iconst 1, 1) := by decide +kernel
theorem dL_isSound_90 : decode cL_isSound 90 = .ok (.if_icmp .ne 5, 3) := by decide +kernel
theorem dL_isSound_93 : decode cL_isSound 93 = .ok (.iconst 0, 1) := by decide +kernel
theorem dL_isSound_94 : decode cL_isSound 94 = .ok (.ireturn, 1) := by decide +kernel
theorem dL_isSound_95 : decode cL_isSound 95 = .ok (.iinc 2 1, 3) := by decide +kernel
theorem dL_isSound_98 : decode cL_isSound 98 = .ok (.goto (-25), 3) := by decide +kernel
theorem dL_isSound_101 : decode cL_isSound 101 = .ok (.iinc 1 1, 3) := by decide +kernel
theorem dL_isSound_104 : decode cL_isSound 104 = .ok (.goto (-102), 3) := by decide +kernel
theorem dL_isSound_107 : decode cL_isSound 107 = .ok (.iconst 0, 1) := by decide +kernel
theorem dL_isSound_108 : decode cL_isSound 108 = .ok (.istore_n 1, 1) := by decide +kernel
theorem dL_isSound_109 : decode cL_isSound 109 = .ok (.iload_n 1, 1) := by decide +kernel
theorem dL_isSound_110 : decode cL_isSound 110 = .ok (.iconst 5, 1) := by decide +kernel
theorem dL_isSound_111 : decode cL_isSound 111 = .ok (.if_icmp .ge 33, 3) := by decide +kernel
theorem dL_isSound_114 : decode cL_isSound 114 = .ok (.aload_n 0, 1) := by decide +kernel
theorem dL_isSound_115 : decode cL_isSound 115 = .ok (.iload_n 1, 1) := by decide +kernel
theorem dL_isSound_116 : decode cL_isSound 116 = .ok (.bipush 7, 2) := by decide +kernel
theorem dL_isSound_118 : decode cL_isSound 118 = .ok (.invokevirtual 49, 3) := by decide +kernel
theorem dL_isSound_121 : decode cL_isSound 121 = .ok (.ifCond .lt 15, 3) := by decide +kernel
theorem dL_isSound_124 : decode cL_isSound 124 = .ok (.aload_n 0, 1) := by decide +kernel
theorem dL_isSound_125 : decode cL_isSound 125 = .ok (.iload_n 1, 1) := by decide +kernel
theorem dL_isSound_126 : decode cL_isSound 126 = .ok (.bipush 7, 2) := by decide +kernel
theorem dL_isSound_128 : decode cL_isSound 128 = .ok (.invokevirtual 49, 3) := by decide +kernel
theorem dL_isSound_131 : decode cL_isSound 131 = .ok (.bipush 100, 2) := by decide +kernel
theorem dL_isSound_133 : decode cL_isSound 133 = .ok (.if_icmp .le 5, 3) := by decide +kernel
theorem dL_isSound_136 : decode cL_isSound 136 = .ok (.iconst 0, 1) := by decide +kernel
theorem dL_isSound_137 : decode cL_isSound 137 = .ok (.ireturn, 1) := by decide +kernel
theorem dL_isSound_138 : decode cL_isSound 138 = .ok (.iinc 1 1, 3) := by decide +kernel
theorem dL_isSound_141 : decode cL_isSound 141 = .ok (.goto (-32), 3) := by decide +kernel
theorem dL_isSound_144 : decode cL_isSound 144 = .ok (.iconst 1, 1) := by decide +kernel
theorem dL_isSound_145 : decode cL_isSound 145 = .ok (.ireturn, 1) := by decide +kernel
end
section
/-! ===== the world of a ledger: 40 cells. σ.1 c k: the k-th number of cell c; σ.2: the sum of margins ===== -/
abbrev St : Type := (Nat → Nat → Int32) × Int64
def up (σ : St) (c k : Nat) (v : Int32) : St := (fun a b => if a = c ∧ b = k then v else σ.1 a b, σ.2)
def upL (σ : St) (v : Int64) : St := (σ.1, v)
def fM (ad : Nat → Nat) (σ : St) : List Value := [.ref (ad 1), .ref (ad 2), .ref (ad 3), .int (σ.1 0 3), .int (σ.1 0 4), .int (σ.1 0 5), .ref (ad 4), .ref (ad 5), .int (σ.1 0 8), .int (σ.1 0 9), .int (σ.1 0 10), .int (σ.1 0 11), .int (σ.1 0 12), .int (σ.1 0 13), .long σ.2]
def fP (ad : Nat → Nat) (σ : St) (c : Nat) : List Value := [.ref (ad (c + 8)), .int (σ.1 c 1), .int (σ.1 c 2), .int (σ.1 c 3), .int (σ.1 c 4), .int (σ.1 c 5), .int (σ.1 c 6), .int (σ.1 c 7), .int (σ.1 c 8)]
def fK (σ : St) (c : Nat) : List Value := [.int (σ.1 c 0), .int (σ.1 c 1), .int (σ.1 c 2), .int (σ.1 c 3), .int (σ.1 c 4)]
def fG (σ : St) (c : Nat) : List Value := [.int (σ.1 c 0), .int (σ.1 c 1), .int (σ.1 c 2), .int (σ.1 c 3), .int (σ.1 c 4), .int (σ.1 c 5), .int (σ.1 c 6), .int (σ.1 c 7), .int (σ.1 c 8)]
def wc (ad : Nat → Nat) (ca : Nat → ClassId) (σ : St) (c : Nat) : va_E :=
  if c = 0 then .inr (3, fM ad σ)
  else if c = 1 then .inl (ca 0, 8, .inr (.inr (.inr (.inr (fun j => some (ad (6 + j)))))))
  else if c = 2 then .inl (ca 1, 12, .inr (.inr (.inr (.inr (fun j => some (ad (22 + j)))))))
  else if c = 3 then .inl (ca 2, 6, .inr (.inr (.inr (.inr (fun j => some (ad (34 + j)))))))
  else if c < 6 then .inl (ca 3, 4, .inl (σ.1 c))
  else if c < 14 then .inr (1, fP ad σ c)
  else if c < 22 then .inl (ca 3, 4, .inl (σ.1 c))
  else if c < 34 then .inr (2, fK σ c)
  else .inr (0, fG σ c)
def wl (ad : Nat → Nat) (ca : Nat → ClassId) (σ : St) : va_W := (List.range 40).map (fun c => (ad c, wc ad ca σ c))
def tyl (ca : Nat → ClassId) : List (ClassId × FieldType) := [(ca 0, .object "Stuntledger$Person"), (ca 1, .object "Stuntledger$Piece"), (ca 2, .object "Stuntledger$Gag"), (ca 3, .int)]
def wnd : Nat → Int32 | 0 => 7 | 1 => 4 | 2 => 6 | _ => 9
def Aw (ad : Nat → Nat) : Nat → Prop := fun q => ∃ c, c < 40 ∧ q = ad c
theorem wl_at {ad : Nat → Nat} {ca : Nat → ClassId} {σ : St} {c : Nat} (h : c < 40) : (wl ad ca σ)[c]? = some (ad c, wc ad ca σ c) := by
  simp [wl, List.getElem?_map, List.getElem?_range h]
theorem wl_len {ad : Nat → Nat} {ca : Nat → ClassId} {σ : St} : (wl ad ca σ).length = 40 := by simp [wl]
theorem wl_some {ad : Nat → Nat} {ca : Nat → ClassId} {σ : St} {c : Nat} {q : Nat × va_E} (h : (wl ad ca σ)[c]? = some q) : c < 40 ∧ q = (ad c, wc ad ca σ c) := by
  have hl : c < 40 := by
    have := (List.getElem?_eq_some_iff.mp h).1
    rwa [wl_len] at this
  rw [wl_at hl] at h
  exact ⟨hl, (Option.some.inj h).symm⟩
theorem wl_set {ad : Nat → Nat} {ca : Nat → ClassId} {σ σ' : St} {c : Nat} {x : va_E} (hx : wc ad ca σ' c = x) (hne : ∀ d, d ≠ c → wc ad ca σ' d = wc ad ca σ d) : (wl ad ca σ).set c (ad c, x) = wl ad ca σ' := by
  apply List.ext_getElem?
  intro j
  by_cases hj : j < 40
  · by_cases h : j = c
    · subst h
      rw [List.getElem?_set_self (by rw [wl_len]; exact hj), wl_at hj, hx]
    · rw [List.getElem?_set_ne (Ne.symm h), wl_at hj, wl_at hj, hne j h]
  · rw [List.getElem?_eq_none (by rw [List.length_set, wl_len]; omega), List.getElem?_eq_none (by rw [wl_len]; omega)]
theorem up_ne {σ : St} {c k d : Nat} {v : Int32} (h : d ≠ c) : (up σ c k v).1 d = σ.1 d := by
  funext b
  simp [up, h]
theorem up_at {σ : St} {c k b : Nat} {v : Int32} : (up σ c k v).1 c b = if b = k then v else σ.1 c b := by simp [up]
theorem up_row {σ : St} {c k : Nat} {v : Int32} : (up σ c k v).1 c = upd (σ.1 c) k v := by
  funext b
  simp [up, upd]
theorem up_2 {σ : St} {c k : Nat} {v : Int32} : (up σ c k v).2 = σ.2 := rfl
theorem wc_ne {ad : Nat → Nat} {ca : Nat → ClassId} {σ : St} {c k d : Nat} {v : Int32} (h : d ≠ c) : wc ad ca (up σ c k v) d = wc ad ca σ d := by
  have e := up_ne (σ := σ) (k := k) (v := v) h
  by_cases h0 : d = 0
  · subst h0
    show (Sum.inr (3, fM ad (up σ c k v)) : va_E) = Sum.inr (3, fM ad σ)
    simp only [fM, e, up_2]
  · simp only [wc, if_neg h0, fP, fK, fG, e]
theorem wc_neL {ad : Nat → Nat} {ca : Nat → ClassId} {σ : St} {d : Nat} {v : Int64} (h : d ≠ 0) : wc ad ca (upL σ v) d = wc ad ca σ d := by
  simp only [wc, if_neg h, fP, fK, fG, upL]
theorem wc_M {ad : Nat → Nat} {ca : Nat → ClassId} {σ : St} : wc ad ca σ 0 = .inr (3, fM ad σ) := rfl
theorem wc_P {ad : Nat → Nat} {ca : Nat → ClassId} {σ : St} {i : Nat} (h : i < 8) : wc ad ca σ (6 + i) = .inr (1, fP ad σ (6 + i)) := by
  unfold wc
  rw [if_neg (by omega), if_neg (by omega), if_neg (by omega), if_neg (by omega), if_neg (by omega), if_pos (by omega)]
theorem wc_S {ad : Nat → Nat} {ca : Nat → ClassId} {σ : St} {c : Nat} (h : (4 ≤ c ∧ c < 6) ∨ (14 ≤ c ∧ c < 22)) : wc ad ca σ c = .inl (ca 3, 4, .inl (σ.1 c)) := by
  unfold wc
  rw [if_neg (by omega), if_neg (by omega), if_neg (by omega), if_neg (by omega)]
  rcases h with h | h
  · rw [if_pos (by omega)]
  · rw [if_neg (by omega), if_neg (by omega), if_pos (by omega)]
theorem wc_K {ad : Nat → Nat} {ca : Nat → ClassId} {σ : St} {i : Nat} (h : i < 12) : wc ad ca σ (22 + i) = .inr (2, fK σ (22 + i)) := by
  unfold wc
  rw [if_neg (by omega), if_neg (by omega), if_neg (by omega), if_neg (by omega), if_neg (by omega), if_neg (by omega), if_neg (by omega), if_pos (by omega)]
theorem wc_G {ad : Nat → Nat} {ca : Nat → ClassId} {σ : St} (i : Nat) : wc ad ca σ (34 + i) = .inr (0, fG σ (34 + i)) := by
  unfold wc
  rw [if_neg (by omega), if_neg (by omega), if_neg (by omega), if_neg (by omega), if_neg (by omega), if_neg (by omega), if_neg (by omega), if_neg (by omega)]
theorem lt9 {P : Nat → Prop} (h0 : P 0) (h1 : P 1) (h2 : P 2) (h3 : P 3) (h4 : P 4) (h5 : P 5) (h6 : P 6) (h7 : P 7) (h8 : P 8) : ∀ k, k < 9 → P k
  | 0, _ => h0 | 1, _ => h1 | 2, _ => h2 | 3, _ => h3 | 4, _ => h4 | 5, _ => h5 | 6, _ => h6 | 7, _ => h7 | 8, _ => h8
  | n + 9, h => absurd h (by omega)
theorem set_G {σ : St} {c k : Nat} {v : Int32} (hk : k < 9) : (fG σ c).set k (.int v) = fG (up σ c k v) c :=
  lt9 (P := fun k => (fG σ c).set k (.int v) = fG (up σ c k v) c) (by simp [fG, up_at]) (by simp [fG, up_at]) (by simp [fG, up_at]) (by simp [fG, up_at]) (by simp [fG, up_at]) (by simp [fG, up_at]) (by simp [fG, up_at]) (by simp [fG, up_at]) (by simp [fG, up_at]) k hk
theorem set_P {ad : Nat → Nat} {σ : St} {c k : Nat} {v : Int32} (h0 : 0 < k) (hk : k < 9) : (fP ad σ c).set k (.int v) = fP ad (up σ c k v) c := by
  refine lt9 (P := fun k => 0 < k → (fP ad σ c).set k (.int v) = fP ad (up σ c k v) c) ?_ ?_ ?_ ?_ ?_ ?_ ?_ ?_ ?_ k hk h0
  · intro h; omega
  all_goals (intro _; simp [fP, up_at])
theorem set_K {σ : St} {c k : Nat} {v : Int32} (hk : k < 5) : (fK σ c).set k (.int v) = fK (up σ c k v) c := by
  have : k = 0 ∨ k = 1 ∨ k = 2 ∨ k = 3 ∨ k = 4 := by omega
  rcases this with rfl | rfl | rfl | rfl | rfl <;> simp [fK, up_at]
theorem set_M {ad : Nat → Nat} {σ : St} {k : Nat} {v : Int32} (hk : k = 3 ∨ k = 4 ∨ k = 5 ∨ k = 8 ∨ k = 9 ∨ k = 10 ∨ k = 11 ∨ k = 12 ∨ k = 13) : (fM ad σ).set k (.int v) = fM ad (up σ 0 k v) := by
  rcases hk with rfl | rfl | rfl | rfl | rfl | rfl | rfl | rfl | rfl <;> simp [fM, up_at, up_2]
theorem set_L {ad : Nat → Nat} {σ : St} {v : Int64} : (fM ad σ).set 14 (.long v) = fM ad (upL σ v) := by simp [fM, upL]
/-- what holds all through a method: the machine, its code, the words, the classes, the addresses apart, the limits of the wind -/
def Cx (p : Program) (s : State) (m : MethodId) (args : Array Value) (c : Code) (own : String) (cc : ByteArray) (nL : Nat) (D : va_G) (ad : Nat → Nat) (ca : Nat → ClassId) (tw : Nat) (A : Nat → Prop) : Prop :=
  p.tables.exec = Jvm.exec ∧ c.code = cc ∧ c.maxLocals = nL ∧ s.vm.findClass own = some m.cls ∧ (∀ w ∈ wsL_law0, w.before args s = true) ∧ va_K D vwCl (tyl ca) s ∧ (∀ i j, i < 40 → j < 40 → ad i = ad j → i = j) ∧ va_Z "Stuntledger" "WIND_LIMITS" "[I" (.ref tw) A s s.heap ∧ va_T .int tw 4 (fun j => .int (wnd j)) A s s.heap ∧ (∀ q, Aw ad q → A q)
def wPre (D : va_G) (ad : Nat → Nat) (ca : Nat → ClassId) (tw : Nat) (σ : St) : State → Prop := fun U => va_P D vwCl (wl ad ca σ) U.heap ∧ va_K D vwCl (tyl ca) U ∧ va_Z "Stuntledger" "WIND_LIMITS" "[I" (.ref tw) (Aw ad) U U.heap ∧ va_T .int tw 4 (fun j => .int (wnd j)) (Aw ad) U U.heap
def wB (D : va_G) (ad : Nat → Nat) (ca : Nat → ClassId) : St → State → Prop := fun u t => va_P D vwCl (wl ad ca u) t.heap
abbrev wm (y : MethodName) (b : ByteArray) (n : Nat) (r : Option FieldType) : List Cond := .code y b n r :: wsL_law0
theorem iX3 : ∀ w ∈ wsX30, w ∈ wsL_law0 := by intro w h; unfold wsL_law0; simp only [List.mem_append]; simp only [h, true_or, or_true]
theorem iX0 : ∀ w ∈ wsX00, w ∈ wsL_law0 := by intro w h; unfold wsL_law0; simp only [List.mem_append]; simp only [h, true_or, or_true]
theorem iX1 : ∀ w ∈ wsX10, w ∈ wsL_law0 := by intro w h; unfold wsL_law0; simp only [List.mem_append]; simp only [h, true_or, or_true]
theorem iX2 : ∀ w ∈ wsX20, w ∈ wsL_law0 := by intro w h; unfold wsL_law0; simp only [List.mem_append]; simp only [h, true_or, or_true]
theorem wl_D {ad : Nat → Nat} {ca : Nat → ClassId} {σ : St} {A : Nat → Prop} (hI : ∀ i j, i < 40 → j < 40 → ad i = ad j → i = j) (hA : ∀ q, Aw ad q → A q) : va_D A (wl ad ca σ) := by
  refine ⟨fun i j x y hi hj hxy => ?_, fun k q hk => ?_⟩
  · obtain ⟨h1, rfl⟩ := wl_some hi
    obtain ⟨h2, rfl⟩ := wl_some hj
    exact hI i j h1 h2 hxy
  · obtain ⟨h1, rfl⟩ := wl_some hk
    exact hA _ ⟨k, h1, rfl⟩
end
section
/-! ===== rows over the world of a ledger ===== -/
section QR
variable {p : Program} {l : Launch} {e : Env} {R : Room} {s : State} {m : MethodId} {args : Array Value} {below : List Frame} {meth : Method} {c : Code} {H : Heap} {locs : List Loc} {cells slots : Nat} {Q : State → Prop}
variable {cc : ByteArray} {pc : Nat} {ls : Array Slot} {rest : List Value} {D : va_G} {A : Nat → Prop} {ad : Nat → Nat} {ca : Nat → ClassId} {tw nL : Nat} {σ : St} {own : String}
theorem q_getG (X : Cx p s m args c own cc nL D ad ca tw A) (hP : va_P D vwCl (wl ad ca σ) H) (i : Nat) (hi : i < 6) (k : Nat) (hk : k < 9) {index : Nat} (hl : (Cond.fieldLink own index (TX0 k).1 (TX0 k).2.1 (TX0 k).2.2.1).before args s = true) {v : Value} (hv : (fG σ (34 + i))[k]? = some v) (hdg : decode cc pc = .ok (.getfield index, 3))
    (kk : W p l e R s m args below meth c H locs cells slots Q (F0 m (pc + 3) ls (v :: rest))) : W p l e R s m args below meth c H locs cells slots Q (F0 m pc ls (.ref (ad (34 + i)) :: rest)) := by
  obtain ⟨hx, hb, hml, hown, hts, hK, hI, hZ, hT, hA⟩ := X
  exact va_get hx hb hts iX0 hown hK hP (34 + i) ((wl_at (by omega)).trans (by rw [wc_G])) rfl k hk hl (fun _ h => h) hv hdg kk
theorem q_getP (X : Cx p s m args c own cc nL D ad ca tw A) (hP : va_P D vwCl (wl ad ca σ) H) (i : Nat) (hi : i < 8) (k : Nat) (hk : k < 9) {index : Nat} (hl : (Cond.fieldLink own index (TX1 k).1 (TX1 k).2.1 (TX1 k).2.2.1).before args s = true) {v : Value} (hv : (fP ad σ (6 + i))[k]? = some v) (hdg : decode cc pc = .ok (.getfield index, 3))
    (kk : W p l e R s m args below meth c H locs cells slots Q (F0 m (pc + 3) ls (v :: rest))) : W p l e R s m args below meth c H locs cells slots Q (F0 m pc ls (.ref (ad (6 + i)) :: rest)) := by
  obtain ⟨hx, hb, hml, hown, hts, hK, hI, hZ, hT, hA⟩ := X
  exact va_get hx hb hts iX1 hown hK hP (6 + i) ((wl_at (by omega)).trans (by rw [wc_P hi])) rfl k hk hl (fun _ h => h) hv hdg kk
theorem q_getK (X : Cx p s m args c own cc nL D ad ca tw A) (hP : va_P D vwCl (wl ad ca σ) H) (i : Nat) (hi : i < 12) (k : Nat) (hk : k < 5) {index : Nat} (hl : (Cond.fieldLink own index (TX2 k).1 (TX2 k).2.1 (TX2 k).2.2.1).before args s = true) {v : Value} (hv : (fK σ (22 + i))[k]? = some v) (hdg : decode cc pc = .ok (.getfield index, 3))
    (kk : W p l e R s m args below meth c H locs cells slots Q (F0 m (pc + 3) ls (v :: rest))) : W p l e R s m args below meth c H locs cells slots Q (F0 m pc ls (.ref (ad (22 + i)) :: rest)) := by
  obtain ⟨hx, hb, hml, hown, hts, hK, hI, hZ, hT, hA⟩ := X
  exact va_get hx hb hts iX2 hown hK hP (22 + i) ((wl_at (by omega)).trans (by rw [wc_K hi])) rfl k hk hl (fun _ h => h) hv hdg kk
theorem q_getM (X : Cx p s m args c own cc nL D ad ca tw A) (hP : va_P D vwCl (wl ad ca σ) H) (k : Nat) (hk : k < 15) {index : Nat} (hl : (Cond.fieldLink own index (TX3 k).1 (TX3 k).2.1 (TX3 k).2.2.1).before args s = true) {v : Value} (hv : (fM ad σ)[k]? = some v) (hdg : decode cc pc = .ok (.getfield index, 3))
    (kk : W p l e R s m args below meth c H locs cells slots Q (F0 m (pc + 3) ls (v :: rest))) : W p l e R s m args below meth c H locs cells slots Q (F0 m pc ls (.ref (ad 0) :: rest)) := by
  obtain ⟨hx, hb, hml, hown, hts, hK, hI, hZ, hT, hA⟩ := X
  exact va_get hx hb hts iX3 hown hK hP 0 (wl_at (by omega)) rfl k hk hl (fun _ h => h) hv hdg kk
theorem q_putG (X : Cx p s m args c own cc nL D ad ca tw A) (hP : va_P D vwCl (wl ad ca σ) H) (hS : va_S A s.heap H locs) (i : Nat) (hi : i < 6) (k : Nat) (hk : k < 9) {index : Nat} (hl : (Cond.fieldLink own index (TX0 k).1 (TX0 k).2.1 (TX0 k).2.2.1).before args s = true) (hfin : (TX0 k).2.2.2 = false) {ty : FieldType} (hd : parseFieldDescriptor (TX0 k).2.2.1 = some ty) {v : Int32} (hn : narrow ty (.int v) = .int v) (hfit : fits ty (.int v) = true) (hdg : decode cc pc = .ok (.putfield index, 3))
    (kk : ∀ (H1 : Heap) (locs1 : List Loc), va_P D vwCl (wl ad ca (up σ (34 + i) k v)) H1 → va_S A s.heap H1 locs1 → W p l e R s m args below meth c H1 locs1 cells slots Q (F0 m (pc + 3) ls rest)) : W p l e R s m args below meth c H locs cells slots Q (F0 m pc ls (.int v :: .ref (ad (34 + i)) :: rest)) := by
  obtain ⟨hx, hb, hml, hown, hts, hK, hI, hZ, hT, hA⟩ := X
  refine va_put hx hb hts iX0 tyX0 tyX0_ok nmX0 hown hK hP (wl_D hI hA) hS (34 + i) ((wl_at (by omega)).trans (by rw [wc_G])) rfl k hk hl (fun _ h => h) hfin hd hn hfit (by simp [fG]; exact hk) hdg (fun H1 locs1 h1 _ h3 => kk H1 locs1 ?_ h3)
  rw [wl_set (σ' := up σ (34 + i) k v) (by rw [wc_G, set_G hk]) (fun d hd => wc_ne hd)] at h1
  exact h1
theorem q_putP (X : Cx p s m args c own cc nL D ad ca tw A) (hP : va_P D vwCl (wl ad ca σ) H) (hS : va_S A s.heap H locs) (i : Nat) (hi : i < 8) (k : Nat) (h0 : 0 < k) (hk : k < 9) {index : Nat} (hl : (Cond.fieldLink own index (TX1 k).1 (TX1 k).2.1 (TX1 k).2.2.1).before args s = true) (hfin : (TX1 k).2.2.2 = false) {ty : FieldType} (hd : parseFieldDescriptor (TX1 k).2.2.1 = some ty) {v : Int32} (hn : narrow ty (.int v) = .int v) (hfit : fits ty (.int v) = true) (hdg : decode cc pc = .ok (.putfield index, 3))
    (kk : ∀ (H1 : Heap) (locs1 : List Loc), va_P D vwCl (wl ad ca (up σ (6 + i) k v)) H1 → va_S A s.heap H1 locs1 → W p l e R s m args below meth c H1 locs1 cells slots Q (F0 m (pc + 3) ls rest)) : W p l e R s m args below meth c H locs cells slots Q (F0 m pc ls (.int v :: .ref (ad (6 + i)) :: rest)) := by
  obtain ⟨hx, hb, hml, hown, hts, hK, hI, hZ, hT, hA⟩ := X
  refine va_put hx hb hts iX1 tyX1 tyX1_ok nmX1 hown hK hP (wl_D hI hA) hS (6 + i) ((wl_at (by omega)).trans (by rw [wc_P hi])) rfl k hk hl (fun _ h => h) hfin hd hn hfit (by simp [fP]; exact hk) hdg (fun H1 locs1 h1 _ h3 => kk H1 locs1 ?_ h3)
  rw [wl_set (σ' := up σ (6 + i) k v) (by rw [wc_P hi, set_P h0 hk]) (fun d hd => wc_ne hd)] at h1
  exact h1
theorem q_putK (X : Cx p s m args c own cc nL D ad ca tw A) (hP : va_P D vwCl (wl ad ca σ) H) (hS : va_S A s.heap H locs) (i : Nat) (hi : i < 12) (k : Nat) (hk : k < 5) {index : Nat} (hl : (Cond.fieldLink own index (TX2 k).1 (TX2 k).2.1 (TX2 k).2.2.1).before args s = true) (hfin : (TX2 k).2.2.2 = false) {ty : FieldType} (hd : parseFieldDescriptor (TX2 k).2.2.1 = some ty) {v : Int32} (hn : narrow ty (.int v) = .int v) (hfit : fits ty (.int v) = true) (hdg : decode cc pc = .ok (.putfield index, 3))
    (kk : ∀ (H1 : Heap) (locs1 : List Loc), va_P D vwCl (wl ad ca (up σ (22 + i) k v)) H1 → va_S A s.heap H1 locs1 → W p l e R s m args below meth c H1 locs1 cells slots Q (F0 m (pc + 3) ls rest)) : W p l e R s m args below meth c H locs cells slots Q (F0 m pc ls (.int v :: .ref (ad (22 + i)) :: rest)) := by
  obtain ⟨hx, hb, hml, hown, hts, hK, hI, hZ, hT, hA⟩ := X
  refine va_put hx hb hts iX2 tyX2 tyX2_ok nmX2 hown hK hP (wl_D hI hA) hS (22 + i) ((wl_at (by omega)).trans (by rw [wc_K hi])) rfl k hk hl (fun _ h => h) hfin hd hn hfit (by simp [fK]; exact hk) hdg (fun H1 locs1 h1 _ h3 => kk H1 locs1 ?_ h3)
  rw [wl_set (σ' := up σ (22 + i) k v) (by rw [wc_K hi, set_K hk]) (fun d hd => wc_ne hd)] at h1
  exact h1
theorem q_putM (X : Cx p s m args c own cc nL D ad ca tw A) (hP : va_P D vwCl (wl ad ca σ) H) (hS : va_S A s.heap H locs) (k : Nat) (hk : k = 3 ∨ k = 4 ∨ k = 5 ∨ k = 8 ∨ k = 9 ∨ k = 10 ∨ k = 11 ∨ k = 12 ∨ k = 13) {index : Nat} (hl : (Cond.fieldLink own index (TX3 k).1 (TX3 k).2.1 (TX3 k).2.2.1).before args s = true) (hfin : (TX3 k).2.2.2 = false) {ty : FieldType} (hd : parseFieldDescriptor (TX3 k).2.2.1 = some ty) {v : Int32} (hn : narrow ty (.int v) = .int v) (hfit : fits ty (.int v) = true) (hdg : decode cc pc = .ok (.putfield index, 3))
    (kk : ∀ (H1 : Heap) (locs1 : List Loc), va_P D vwCl (wl ad ca (up σ 0 k v)) H1 → va_S A s.heap H1 locs1 → W p l e R s m args below meth c H1 locs1 cells slots Q (F0 m (pc + 3) ls rest)) : W p l e R s m args below meth c H locs cells slots Q (F0 m pc ls (.int v :: .ref (ad 0) :: rest)) := by
  obtain ⟨hx, hb, hml, hown, hts, hK, hI, hZ, hT, hA⟩ := X
  refine va_put hx hb hts iX3 tyX3 tyX3_ok nmX3 hown hK hP (wl_D hI hA) hS 0 (wl_at (by omega)) rfl k (by omega) hl (fun _ h => h) hfin hd hn hfit (by show k < 15; omega) hdg (fun H1 locs1 h1 _ h3 => kk H1 locs1 ?_ h3)
  rw [wl_set (σ' := up σ 0 k v) (by rw [wc_M, set_M hk]) (fun d hd => wc_ne hd)] at h1
  exact h1
theorem q_putL (X : Cx p s m args c own cc nL D ad ca tw A) (hP : va_P D vwCl (wl ad ca σ) H) (hS : va_S A s.heap H locs) {index : Nat} (hl : (Cond.fieldLink own index (TX3 14).1 (TX3 14).2.1 (TX3 14).2.2.1).before args s = true) {v : Int64} (hdg : decode cc pc = .ok (.putfield index, 3))
    (kk : ∀ (H1 : Heap) (locs1 : List Loc), va_P D vwCl (wl ad ca (upL σ v)) H1 → va_S A s.heap H1 locs1 → W p l e R s m args below meth c H1 locs1 cells slots Q (F0 m (pc + 3) ls rest)) : W p l e R s m args below meth c H locs cells slots Q (F0 m pc ls (.long v :: .ref (ad 0) :: rest)) := by
  obtain ⟨hx, hb, hml, hown, hts, hK, hI, hZ, hT, hA⟩ := X
  refine va_put (ty := .long) hx hb hts iX3 tyX3 tyX3_ok nmX3 hown hK hP (wl_D hI hA) hS 0 (wl_at (by omega)) rfl 14 (by omega) hl (fun _ h => h) rfl (by decide +kernel) rfl rfl (by show 14 < 15; omega) hdg (fun H1 locs1 h1 _ h3 => kk H1 locs1 ?_ h3)
  rw [wl_set (σ' := upL σ v) (by rw [wc_M, set_L]) (fun d hd => wc_neL hd)] at h1
  exact h1
theorem q_aldP (X : Cx p s m args c own cc nL D ad ca tw A) (hP : va_P D vwCl (wl ad ca σ) H) {i : Int32} (hin : vp_in i 8) (hdg : decode cc pc = .ok (.aaload, 1))
    (kk : W p l e R s m args below meth c H locs cells slots Q (F0 m (pc + 1) ls (.ref (ad (6 + i.toNatClampNeg)) :: rest))) : W p l e R s m args below meth c H locs cells slots Q (F0 m pc ls (.int i :: .ref (ad 1) :: rest)) := by
  obtain ⟨hx, hb, hml, hown, hts, hK, hI, hZ, hT, hA⟩ := X
  exact va_aldq hx hb hK hP 1 0 (f := fun j => some (ad (6 + j))) (wl_at (by omega)) rfl hin hdg kk
theorem q_aldK (X : Cx p s m args c own cc nL D ad ca tw A) (hP : va_P D vwCl (wl ad ca σ) H) {i : Int32} (hin : vp_in i 12) (hdg : decode cc pc = .ok (.aaload, 1))
    (kk : W p l e R s m args below meth c H locs cells slots Q (F0 m (pc + 1) ls (.ref (ad (22 + i.toNatClampNeg)) :: rest))) : W p l e R s m args below meth c H locs cells slots Q (F0 m pc ls (.int i :: .ref (ad 2) :: rest)) := by
  obtain ⟨hx, hb, hml, hown, hts, hK, hI, hZ, hT, hA⟩ := X
  exact va_aldq hx hb hK hP 2 1 (f := fun j => some (ad (22 + j))) (wl_at (by omega)) rfl hin hdg kk
theorem q_aldG (X : Cx p s m args c own cc nL D ad ca tw A) (hP : va_P D vwCl (wl ad ca σ) H) {i : Int32} (hin : vp_in i 6) (hdg : decode cc pc = .ok (.aaload, 1))
    (kk : W p l e R s m args below meth c H locs cells slots Q (F0 m (pc + 1) ls (.ref (ad (34 + i.toNatClampNeg)) :: rest))) : W p l e R s m args below meth c H locs cells slots Q (F0 m pc ls (.int i :: .ref (ad 3) :: rest)) := by
  obtain ⟨hx, hb, hml, hown, hts, hK, hI, hZ, hT, hA⟩ := X
  exact va_aldq hx hb hK hP 3 2 (f := fun j => some (ad (34 + j))) (wl_at (by omega)) rfl hin hdg kk
theorem q_iald (X : Cx p s m args c own cc nL D ad ca tw A) (hP : va_P D vwCl (wl ad ca σ) H) (d : Nat) (hd : (4 ≤ d ∧ d < 6) ∨ (14 ≤ d ∧ d < 22)) {i : Int32} (hin : vp_in i 4) (hdg : decode cc pc = .ok (.iaload, 1))
    (kk : W p l e R s m args below meth c H locs cells slots Q (F0 m (pc + 1) ls (.int (σ.1 d i.toNatClampNeg) :: rest))) : W p l e R s m args below meth c H locs cells slots Q (F0 m pc ls (.int i :: .ref (ad d) :: rest)) := by
  obtain ⟨hx, hb, hml, hown, hts, hK, hI, hZ, hT, hA⟩ := X
  exact va_iald hx hb hK hP d 3 (f := σ.1 d) ((wl_at (by omega)).trans (by rw [wc_S hd])) rfl hin hdg kk
theorem q_iast (X : Cx p s m args c own cc nL D ad ca tw A) (hP : va_P D vwCl (wl ad ca σ) H) (hS : va_S A s.heap H locs) (d : Nat) (hd : (4 ≤ d ∧ d < 6) ∨ (14 ≤ d ∧ d < 22)) {i v : Int32} (hin : vp_in i 4) (hdg : decode cc pc = .ok (.iastore, 1))
    (kk : ∀ (H1 : Heap) (locs1 : List Loc), va_P D vwCl (wl ad ca (up σ d i.toNatClampNeg v)) H1 → va_S A s.heap H1 locs1 → W p l e R s m args below meth c H1 locs1 cells slots Q (F0 m (pc + 1) ls rest)) : W p l e R s m args below meth c H locs cells slots Q (F0 m pc ls (.int v :: .int i :: .ref (ad d) :: rest)) := by
  obtain ⟨hx, hb, hml, hown, hts, hK, hI, hZ, hT, hA⟩ := X
  refine va_iast hx hb hK hP (wl_D hI hA) hS d 3 (f := σ.1 d) ((wl_at (by omega)).trans (by rw [wc_S hd])) rfl hin hdg (fun H1 locs1 h1 _ h3 => kk H1 locs1 ?_ h3)
  rw [wl_set (σ' := up σ d i.toNatClampNeg v) (by rw [wc_S hd, up_row]) (fun x hx => wc_ne hx)] at h1
  exact h1
theorem q_wind (X : Cx p s m args c own cc nL D ad ca tw A) (hS : va_S A s.heap H locs) {index : Nat} (hl : (Cond.fieldLink own index "Stuntledger" "WIND_LIMITS" "[I").before args s = true) (hdg : decode cc pc = .ok (.getstatic index, 3))
    (kk : W p l e R s m args below meth c H locs cells slots Q (F0 m (pc + 3) ls (.ref tw :: rest))) : W p l e R s m args below meth c H locs cells slots Q (F0 m pc ls rest) := by
  obtain ⟨hx, hb, hml, hown, hts, hK, hI, hZ, hT, hA⟩ := X
  exact va_gets hx hb hZ hS hown hl (fun _ h => h) hdg kk
theorem q_wald (X : Cx p s m args c own cc nL D ad ca tw A) (hS : va_S A s.heap H locs) {i : Int32} (hin : vp_in i 4) (hdg : decode cc pc = .ok (.iaload, 1))
    (kk : W p l e R s m args below meth c H locs cells slots Q (F0 m (pc + 1) ls (.int (wnd i.toNatClampNeg) :: rest))) : W p l e R s m args below meth c H locs cells slots Q (F0 m pc ls (.int i :: .ref tw :: rest)) := by
  obtain ⟨hx, hb, hml, hown, hts, hK, hI, hZ, hT, hA⟩ := X
  exact va_ti hx hb hT hS hin rfl hdg kk
theorem q_blind {av : List Value} : FrameBlind (va_Pc av (wPre D ad ca tw σ)) := by
  intro a U g mk h
  obtain ⟨h1, h2, h3, h4, h5⟩ := h
  exact ⟨h1, h2, va_K.moved (u := U) (U := U.calling g mk a) (Vm.Alike.refl U.vm) h3, va_Z.moved (u := U) (U := U.calling g mk a) (Vm.Alike.refl U.vm) h4, va_T.moved (u := U) (U := U.calling g mk a) (Vm.Alike.refl U.vm) h5⟩
theorem q_pre (X : Cx p s m args c own cc nL D ad ca tw A) (hP : va_P D vwCl (wl ad ca σ) H) (hS : va_S A s.heap H locs) (U : State) (hU : U.heap = H) (hW : s.WarmedH U.vm) : wPre D ad ca tw σ U := by
  obtain ⟨hx, hb, hml, hown, hts, hK, hI, hZ, hT, hA⟩ := X
  have hq : ∀ a : Nat, a < s.heap.size → ¬ A a → U.heap[a]? = s.heap[a]? := fun a h1 h2 => by rw [hU]; exact hS.2.1 a h1 h2
  exact ⟨by rw [hU]; exact hP, va_K.moved hW.alike hK, ((hZ.kept hq).moved hW.alike).narrow hA, ((hT.kept hq).moved hW.alike).narrow hA⟩
theorem q_recv (X : Cx p s m args c own cc nL D ad ca tw A) (hP : va_P D vwCl (wl ad ca σ) H) : ∃ cell : Cell, H[ad 0]? = some cell ∧ cell.vm.isStatics = false ∧ s.vm.findClass RX3 = some cell.cls := by
  obtain ⟨hx, hb, hml, hown, hts, hK, hI, hZ, hT, hA⟩ := X
  exact va_recv hK hP (ci := 3) (q0 := 0) rfl (wl_at (by omega))
/-- calls of the ledger's own methods: of an object, static -/
theorem q_runV (X : Cx p s m args c own cc nL D ad ca tw A) (hP : va_P D vwCl (wl ad ca σ) H) (hS : va_S A s.heap H locs) {y : MethodName} {bytes : ByteArray} {maxL n index : Nat} {ret : Option FieldType} {ws : List Cond} {rm : Room} {as : List Value} {Qc : Array Value → State → Outcome → State → Prop} (cw : CallW R s args own RX3 index y bytes maxL ret ws rm 0 0 n) (hM : Met l y ws rm (va_Pc (.ref (ad 0) :: as) (wPre D ad ca tw σ)) Qc 0 0 (Aw ad)) (hn : as.length = n) (hsz : ls.size = nL) {st : List Value} (hst : st = as.reverse ++ .ref (ad 0) :: rest) (hr : (rest.map fun v => v.category).sum ≤ 8) (hdg : decode cc pc = .ok (.invokevirtual index, 3)) (hcap : cells ≤ R.cells ∧ slots ≤ R.slots) :
    va_Run p l e R s m args below meth c H locs cells slots 0 0 (F0 m pc ls st) rest (Qc (Value.ref (ad 0) :: as).toArray) (Aw ad) :=
  va_runV (As := as) (rest := rest) ⟨X.1, X.2.1, X.2.2.1, X.2.2.2.1, X.2.2.2.2.1⟩ hM cw ⟨q_blind, q_recv X hP, fun U hU hW => ⟨rfl, q_pre X hP hS U hU hW⟩⟩ rfl hn hsz hst (lv_room hr) hdg hcap
theorem q_runS (X : Cx p s m args c own cc nL D ad ca tw A) (hP : va_P D vwCl (wl ad ca σ) H) (hS : va_S A s.heap H locs) {y : MethodName} {bytes : ByteArray} {maxL n index : Nat} {ret : Option FieldType} {ws : List Cond} {rm : Room} {as : List Value} {Qc : Array Value → State → Outcome → State → Prop} (cw : CallB R s args own index y bytes maxL ret ws rm 0 0 n ∧ (Cond.static y).before args s = true) (hM : Met l y ws rm (va_Pc as (wPre D ad ca tw σ)) Qc 0 0 (Aw ad)) (hn : as.length = n) (hsz : ls.size = nL) {st : List Value} (hst : st = as.reverse ++ rest) (hr : (rest.map fun v => v.category).sum ≤ 8) (hdg : decode cc pc = .ok (.invokestatic index, 3)) (hcap : cells ≤ R.cells ∧ slots ≤ R.slots) :
    va_Run p l e R s m args below meth c H locs cells slots 0 0 (F0 m pc ls st) rest (Qc as.toArray) (Aw ad) :=
  va_runS (As := as) (rest := rest) ⟨X.1, X.2.1, X.2.2.1, X.2.2.2.1, X.2.2.2.2.1⟩ hM cw ⟨q_blind, fun U hU hW => ⟨rfl, q_pre X hP hS U hU hW⟩⟩ rfl hn hsz hst (lv_room hr) hdg hcap
theorem q_bi {st0 : List Value} {a : Array Value} (X : Cx p s m args c own cc nL D ad ca tw A) (hS : va_S A s.heap H locs) {post : Int32 → St → Prop} (hr : va_Run p l e R s m args below meth c H locs cells slots 0 0 (F0 m pc ls st0) rest (va_Qi post (wB D ad ca) (Aw ad) a) (Aw ad))
    (kk : ∀ (r : Int32) (u : St) (H1 : Heap) (locs1 : List Loc), post r u → va_P D vwCl (wl ad ca u) H1 → va_S A s.heap H1 locs1 → W p l e R s m args below meth c H1 locs1 cells slots Q (F0 m (pc + 3) ls (.int r :: rest))) : W p l e R s m args below meth c H locs cells slots Q (F0 m pc ls st0) :=
  va_calli hr hS (fun q _ h => X.2.2.2.2.2.2.2.2.2 q h) X.2.2.2.2.2.2.2.2.2 (fun r u t H1 locs1 ht _ hp hb _ _ hS1 => kk r u H1 locs1 hp (by rw [← ht]; exact hb) hS1)
theorem q_bl {st0 : List Value} {a : Array Value} (X : Cx p s m args c own cc nL D ad ca tw A) (hS : va_S A s.heap H locs) {post : Int64 → St → Prop} (hr : va_Run p l e R s m args below meth c H locs cells slots 0 0 (F0 m pc ls st0) rest (va_Ql post (wB D ad ca) (Aw ad) a) (Aw ad))
    (kk : ∀ (r : Int64) (u : St) (H1 : Heap) (locs1 : List Loc), post r u → va_P D vwCl (wl ad ca u) H1 → va_S A s.heap H1 locs1 → W p l e R s m args below meth c H1 locs1 cells slots Q (F0 m (pc + 3) ls (.long r :: rest))) : W p l e R s m args below meth c H locs cells slots Q (F0 m pc ls st0) :=
  va_calll hr hS (fun q _ h => X.2.2.2.2.2.2.2.2.2 q h) X.2.2.2.2.2.2.2.2.2 (fun r u t H1 locs1 ht _ hp hb _ _ hS1 => kk r u H1 locs1 hp (by rw [← ht]; exact hb) hS1)
theorem q_bv {st0 : List Value} {a : Array Value} (X : Cx p s m args c own cc nL D ad ca tw A) (hS : va_S A s.heap H locs) {post : St → Prop} (hr : va_Run p l e R s m args below meth c H locs cells slots 0 0 (F0 m pc ls st0) rest (va_Qv post (wB D ad ca) (Aw ad) a) (Aw ad))
    (kk : ∀ (u : St) (H1 : Heap) (locs1 : List Loc), post u → va_P D vwCl (wl ad ca u) H1 → va_S A s.heap H1 locs1 → W p l e R s m args below meth c H1 locs1 cells slots Q (F0 m (pc + 3) ls rest)) : W p l e R s m args below meth c H locs cells slots Q (F0 m pc ls st0) :=
  va_callv hr hS (fun q _ h => X.2.2.2.2.2.2.2.2.2 q h) X.2.2.2.2.2.2.2.2.2 (fun u t H1 locs1 ht _ hp hb _ _ hS1 => kk u H1 locs1 hp (by rw [← ht]; exact hb) hS1)
end QR
end
section
theorem in_1 : ∀ w ∈ wsL_law0_r1, w ∈ wsL_law0 := by intro w h; unfold wsL_law0; simp only [List.mem_append]; simp only [h, true_or, or_true]
theorem in_2 : ∀ w ∈ wsL_law0_r2, w ∈ wsL_law0 := by intro w h; unfold wsL_law0; simp only [List.mem_append]; simp only [h, true_or, or_true]
theorem in_3 : ∀ w ∈ wsL_law0_r3, w ∈ wsL_law0 := by intro w h; unfold wsL_law0; simp only [List.mem_append]; simp only [h, true_or, or_true]
theorem in_4 : ∀ w ∈ wsL_law0_r4, w ∈ wsL_law0 := by intro w h; unfold wsL_law0; simp only [List.mem_append]; simp only [h, true_or, or_true]
theorem in_5 : ∀ w ∈ wsL_law0_r5, w ∈ wsL_law0 := by intro w h; unfold wsL_law0; simp only [List.mem_append]; simp only [h, true_or, or_true]
theorem in_6 : ∀ w ∈ wsL_law0_r6, w ∈ wsL_law0 := by intro w h; unfold wsL_law0; simp only [List.mem_append]; simp only [h, true_or, or_true]
theorem in_7 : ∀ w ∈ wsL_law0_r7, w ∈ wsL_law0 := by intro w h; unfold wsL_law0; simp only [List.mem_append]; simp only [h, true_or, or_true]
theorem in_8 : ∀ w ∈ wsL_law0_r8, w ∈ wsL_law0 := by intro w h; unfold wsL_law0; simp only [List.mem_append]; simp only [h, true_or, or_true]
theorem in_9 : ∀ w ∈ wsL_law0_r9, w ∈ wsL_law0 := by intro w h; unfold wsL_law0; simp only [List.mem_append]; simp only [h, true_or, or_true]
theorem in_10 : ∀ w ∈ wsL_law0_r10, w ∈ wsL_law0 := by intro w h; unfold wsL_law0; simp only [List.mem_append]; simp only [h, true_or, or_true]
theorem in_11 : ∀ w ∈ wsL_law0_r11, w ∈ wsL_law0 := by intro w h; unfold wsL_law0; simp only [List.mem_append]; simp only [h, true_or, or_true]
theorem in_12 : ∀ w ∈ wsL_law0_r12, w ∈ wsL_law0 := by intro w h; unfold wsL_law0; simp only [List.mem_append]; simp only [h, true_or, or_true]
theorem in_13 : ∀ w ∈ wsL_law0_r13, w ∈ wsL_law0 := by intro w h; unfold wsL_law0; simp only [List.mem_append]; simp only [h, true_or, or_true]
theorem in_14 : ∀ w ∈ wsL_law0_r14, w ∈ wsL_law0 := by intro w h; unfold wsL_law0; simp only [List.mem_append]; simp only [h, true_or, or_true]
theorem in_15 : ∀ w ∈ wsL_law0_r15, w ∈ wsL_law0 := by intro w h; unfold wsL_law0; simp only [List.mem_append]; simp only [h, true_or, or_true]
theorem in_16 : ∀ w ∈ wsL_law0_r16, w ∈ wsL_law0 := by intro w h; unfold wsL_law0; simp only [List.mem_append]; simp only [h, true_or, or_true]
theorem in_17 : ∀ w ∈ wsL_law0_r17, w ∈ wsL_law0 := by intro w h; unfold wsL_law0; simp only [List.mem_append]; simp only [h, true_or, or_true]
theorem in_18 : ∀ w ∈ wsL_law0_r18, w ∈ wsL_law0 := by intro w h; unfold wsL_law0; simp only [List.mem_append]; simp only [h, true_or, or_true]
theorem wd0 : Cond.classLink RL 20 RX3 ∈ wsL_law0 := in_1 _ (List.mem_of_getElem? (i := 0) rfl)
theorem wd1 : Cond.instantiable RX3 15 ∈ wsL_law0 := in_1 _ (List.mem_of_getElem? (i := 1) rfl)
theorem wd2 : Cond.initialized RX3 ∈ wsL_law0 := in_1 _ (List.mem_of_getElem? (i := 2) rfl)
theorem wd3 : Cond.arrayClass .int ∈ wsL_law0 := in_1 _ (List.mem_of_getElem? (i := 3) rfl)
theorem wd4 : Cond.methodLink RL 58 yX3_init ∈ wsL_law0 := in_1 _ (List.mem_of_getElem? (i := 4) rfl)
theorem wd5 : Cond.instanceMethod yX3_init ∈ wsL_law0 := in_1 _ (List.mem_of_getElem? (i := 5) rfl)
theorem wd6 : Cond.code yX3_init cX3_init 2 none ∈ wsL_law0 := in_1 _ (List.mem_of_getElem? (i := 6) rfl)
theorem wd7 : Cond.methodLink RX3 1 objectInit ∈ wsL_law0 := in_1 _ (List.mem_of_getElem? (i := 7) rfl)
theorem wd8 : Cond.instanceMethod objectInit ∈ wsL_law0 := in_1 _ (List.mem_of_getElem? (i := 8) rfl)
theorem wd9 : Cond.code objectInit ⟨#[0xb1]⟩ 1 none ∈ wsL_law0 := in_1 _ (List.mem_of_getElem? (i := 9) rfl)
theorem wd10 : Cond.classLink RX3 9 RX1 ∈ wsL_law0 := in_1 _ (List.mem_of_getElem? (i := 10) rfl)
theorem wd11 : Cond.fieldLink RX3 11 "Stuntledger" "people" "[LStuntledger$Person;" ∈ wsL_law0 := in_1 _ (List.mem_of_getElem? (i := 11) rfl)
theorem wd12 : Cond.classLink RX3 15 RX2 ∈ wsL_law0 := in_1 _ (List.mem_of_getElem? (i := 12) rfl)
theorem wd13 : Cond.fieldLink RX3 17 "Stuntledger" "pieces" "[LStuntledger$Piece;" ∈ wsL_law0 := in_1 _ (List.mem_of_getElem? (i := 13) rfl)
theorem wd14 : Cond.classLink RX3 21 RX0 ∈ wsL_law0 := in_1 _ (List.mem_of_getElem? (i := 14) rfl)
theorem wd15 : Cond.fieldLink RX3 23 "Stuntledger" "gags" "[LStuntledger$Gag;" ∈ wsL_law0 := in_1 _ (List.mem_of_getElem? (i := 15) rfl)
theorem wd16 : Cond.fieldLink RX3 27 "Stuntledger" "peopleCount" "I" ∈ wsL_law0 := in_1 _ (List.mem_of_getElem? (i := 16) rfl)
theorem wd17 : Cond.fieldLink RX3 31 "Stuntledger" "pieceCount" "I" ∈ wsL_law0 := in_1 _ (List.mem_of_getElem? (i := 17) rfl)
theorem wd18 : Cond.fieldLink RX3 34 "Stuntledger" "gagCount" "I" ∈ wsL_law0 := in_1 _ (List.mem_of_getElem? (i := 18) rfl)
theorem wd19 : Cond.fieldLink RX3 37 "Stuntledger" "care" "[I" ∈ wsL_law0 := in_1 _ (List.mem_of_getElem? (i := 19) rfl)
theorem wd20 : Cond.fieldLink RX3 41 "Stuntledger" "misses" "[I" ∈ wsL_law0 := in_1 _ (List.mem_of_getElem? (i := 20) rfl)
theorem wd21 : Cond.fieldLink RX3 44 "Stuntledger" "day" "I" ∈ wsL_law0 := in_1 _ (List.mem_of_getElem? (i := 21) rfl)
theorem wd22 : Cond.fieldLink RX3 47 "Stuntledger" "wind" "I" ∈ wsL_law0 := in_1 _ (List.mem_of_getElem? (i := 22) rfl)
theorem wd23 : Cond.fieldLink RX3 50 "Stuntledger" "hasLight" "Z" ∈ wsL_law0 := in_1 _ (List.mem_of_getElem? (i := 23) rfl)
theorem wd24 : Cond.fieldLink RX3 54 "Stuntledger" "hurtEver" "I" ∈ wsL_law0 := in_2 _ (List.mem_of_getElem? (i := 0) rfl)
theorem wd25 : Cond.fieldLink RX3 57 "Stuntledger" "takenEver" "I" ∈ wsL_law0 := in_2 _ (List.mem_of_getElem? (i := 1) rfl)
theorem wd26 : Cond.fieldLink RX3 60 "Stuntledger" "downEver" "I" ∈ wsL_law0 := in_2 _ (List.mem_of_getElem? (i := 2) rfl)
theorem wd27 : Cond.fieldLink RX3 63 "Stuntledger" "marginsTaken" "J" ∈ wsL_law0 := in_2 _ (List.mem_of_getElem? (i := 3) rfl)
theorem wd28 : Cond.instantiable RX1 9 ∈ wsL_law0 := in_2 _ (List.mem_of_getElem? (i := 4) rfl)
theorem wd29 : Cond.initialized RX1 ∈ wsL_law0 := in_2 _ (List.mem_of_getElem? (i := 5) rfl)
theorem wd30 : Cond.instantiable RX2 5 ∈ wsL_law0 := in_2 _ (List.mem_of_getElem? (i := 6) rfl)
theorem wd31 : Cond.initialized RX2 ∈ wsL_law0 := in_2 _ (List.mem_of_getElem? (i := 7) rfl)
theorem wd32 : Cond.instantiable RX0 9 ∈ wsL_law0 := in_2 _ (List.mem_of_getElem? (i := 8) rfl)
theorem wd33 : Cond.initialized RX0 ∈ wsL_law0 := in_2 _ (List.mem_of_getElem? (i := 9) rfl)
theorem wd34 : Cond.instanceMethod yX1_init ∈ wsL_law0 := in_2 _ (List.mem_of_getElem? (i := 10) rfl)
theorem wd35 : Cond.code yX1_init cX1_init 1 none ∈ wsL_law0 := in_2 _ (List.mem_of_getElem? (i := 11) rfl)
theorem wd36 : Cond.methodLink RX1 3 objectInit ∈ wsL_law0 := in_2 _ (List.mem_of_getElem? (i := 12) rfl)
theorem wd37 : Cond.fieldLink RX1 9 "Stuntledger$Person" "skills" "[I" ∈ wsL_law0 := in_2 _ (List.mem_of_getElem? (i := 13) rfl)
theorem wd38 : Cond.fieldLink RX1 15 "Stuntledger$Person" "isMinor" "Z" ∈ wsL_law0 := in_2 _ (List.mem_of_getElem? (i := 14) rfl)
theorem wd39 : Cond.fieldLink RX1 19 "Stuntledger$Person" "isMedic" "Z" ∈ wsL_law0 := in_2 _ (List.mem_of_getElem? (i := 15) rfl)
theorem wd40 : Cond.fieldLink RX1 22 "Stuntledger$Person" "isHurt" "Z" ∈ wsL_law0 := in_2 _ (List.mem_of_getElem? (i := 16) rfl)
theorem wd41 : Cond.fieldLink RX1 25 "Stuntledger$Person" "hurtDay" "I" ∈ wsL_law0 := in_2 _ (List.mem_of_getElem? (i := 17) rfl)
theorem wd42 : Cond.fieldLink RX1 29 "Stuntledger$Person" "place" "I" ∈ wsL_law0 := in_2 _ (List.mem_of_getElem? (i := 18) rfl)
theorem wd43 : Cond.fieldLink RX1 32 "Stuntledger$Person" "tired" "I" ∈ wsL_law0 := in_2 _ (List.mem_of_getElem? (i := 19) rfl)
theorem wd44 : Cond.fieldLink RX1 35 "Stuntledger$Person" "pay" "I" ∈ wsL_law0 := in_2 _ (List.mem_of_getElem? (i := 20) rfl)
theorem wd45 : Cond.fieldLink RX1 38 "Stuntledger$Person" "tookCount" "I" ∈ wsL_law0 := in_2 _ (List.mem_of_getElem? (i := 21) rfl)
theorem wd46 : Cond.instanceMethod yX2_init ∈ wsL_law0 := in_2 _ (List.mem_of_getElem? (i := 22) rfl)
theorem wd47 : Cond.code yX2_init cX2_init 1 none ∈ wsL_law0 := in_2 _ (List.mem_of_getElem? (i := 23) rfl)
theorem wd48 : Cond.methodLink RX2 3 objectInit ∈ wsL_law0 := in_3 _ (List.mem_of_getElem? (i := 0) rfl)
theorem wd49 : Cond.fieldLink RX2 9 "Stuntledger$Piece" "kind" "I" ∈ wsL_law0 := in_3 _ (List.mem_of_getElem? (i := 1) rfl)
theorem wd50 : Cond.fieldLink RX2 15 "Stuntledger$Piece" "guard" "I" ∈ wsL_law0 := in_3 _ (List.mem_of_getElem? (i := 2) rfl)
theorem wd51 : Cond.fieldLink RX2 18 "Stuntledger$Piece" "uses" "I" ∈ wsL_law0 := in_3 _ (List.mem_of_getElem? (i := 3) rfl)
theorem wd52 : Cond.fieldLink RX2 21 "Stuntledger$Piece" "inspectedDay" "I" ∈ wsL_law0 := in_3 _ (List.mem_of_getElem? (i := 4) rfl)
theorem wd53 : Cond.fieldLink RX2 24 "Stuntledger$Piece" "putTo" "I" ∈ wsL_law0 := in_3 _ (List.mem_of_getElem? (i := 5) rfl)
theorem wd54 : Cond.instanceMethod yX0_init ∈ wsL_law0 := in_3 _ (List.mem_of_getElem? (i := 6) rfl)
theorem wd55 : Cond.code yX0_init cX0_init 1 none ∈ wsL_law0 := in_3 _ (List.mem_of_getElem? (i := 7) rfl)
theorem wd56 : Cond.methodLink RX0 1 objectInit ∈ wsL_law0 := in_3 _ (List.mem_of_getElem? (i := 8) rfl)
theorem wd57 : Cond.fieldLink RX0 7 "Stuntledger$Gag" "kind" "I" ∈ wsL_law0 := in_3 _ (List.mem_of_getElem? (i := 9) rfl)
theorem wd58 : Cond.fieldLink RX0 13 "Stuntledger$Gag" "performer" "I" ∈ wsL_law0 := in_3 _ (List.mem_of_getElem? (i := 10) rfl)
theorem wd59 : Cond.fieldLink RX0 16 "Stuntledger$Gag" "place" "I" ∈ wsL_law0 := in_3 _ (List.mem_of_getElem? (i := 11) rfl)
theorem wd60 : Cond.fieldLink RX0 19 "Stuntledger$Gag" "level" "I" ∈ wsL_law0 := in_3 _ (List.mem_of_getElem? (i := 12) rfl)
theorem wd61 : Cond.fieldLink RX0 22 "Stuntledger$Gag" "step" "I" ∈ wsL_law0 := in_3 _ (List.mem_of_getElem? (i := 13) rfl)
theorem wd62 : Cond.fieldLink RX0 25 "Stuntledger$Gag" "signatures" "I" ∈ wsL_law0 := in_3 _ (List.mem_of_getElem? (i := 14) rfl)
theorem wd63 : Cond.fieldLink RX0 28 "Stuntledger$Gag" "noes" "I" ∈ wsL_law0 := in_3 _ (List.mem_of_getElem? (i := 15) rfl)
theorem wd64 : Cond.fieldLink RX0 31 "Stuntledger$Gag" "takenCount" "I" ∈ wsL_law0 := in_3 _ (List.mem_of_getElem? (i := 16) rfl)
theorem wd65 : Cond.fieldLink RX0 34 "Stuntledger$Gag" "isArmed" "Z" ∈ wsL_law0 := in_3 _ (List.mem_of_getElem? (i := 17) rfl)
theorem wd66 : Cond.methodLink RL 59 yL_write ∈ wsL_law0 := in_3 _ (List.mem_of_getElem? (i := 18) rfl)
theorem wd67 : Cond.static yL_write ∈ wsL_law0 := in_3 _ (List.mem_of_getElem? (i := 19) rfl)
theorem wd68 : Cond.initialized RL ∈ wsL_law0 := in_3 _ (List.mem_of_getElem? (i := 20) rfl)
theorem wd69 : Cond.code yL_write cL_write 6 none ∈ wsL_law0 := in_3 _ (List.mem_of_getElem? (i := 21) rfl)
theorem wd70 : Cond.methodLink RL 9 yL_cell ∈ wsL_law0 := in_3 _ (List.mem_of_getElem? (i := 22) rfl)
theorem wd71 : Cond.static yL_cell ∈ wsL_law0 := in_3 _ (List.mem_of_getElem? (i := 23) rfl)
theorem wd72 : Cond.code yL_cell cL_cell 2 (some .int) ∈ wsL_law0 := in_4 _ (List.mem_of_getElem? (i := 0) rfl)
theorem wd73 : Cond.constant RL 8 (790386105) ∈ wsL_law0 := in_4 _ (List.mem_of_getElem? (i := 1) rfl)
theorem wd74 : Cond.methodLink RL 15 yL_below ∈ wsL_law0 := in_4 _ (List.mem_of_getElem? (i := 2) rfl)
theorem wd75 : Cond.static yL_below ∈ wsL_law0 := in_4 _ (List.mem_of_getElem? (i := 3) rfl)
theorem wd76 : Cond.code yL_below cL_below 2 (some .int) ∈ wsL_law0 := in_4 _ (List.mem_of_getElem? (i := 4) rfl)
theorem wd77 : Cond.constant RL 7 (2147483647) ∈ wsL_law0 := in_4 _ (List.mem_of_getElem? (i := 5) rfl)
theorem wd78 : Cond.methodLink RL 19 yX3_person ∈ wsL_law0 := in_4 _ (List.mem_of_getElem? (i := 6) rfl)
theorem wd79 : Cond.instanceMethod yX3_person ∈ wsL_law0 := in_4 _ (List.mem_of_getElem? (i := 7) rfl)
theorem wd80 : Cond.selects RX3 yX3_person yX3_person ∈ wsL_law0 := in_4 _ (List.mem_of_getElem? (i := 8) rfl)
theorem wd81 : Cond.code yX3_person cX3_person 4 (some .int) ∈ wsL_law0 := in_4 _ (List.mem_of_getElem? (i := 9) rfl)
theorem wd82 : Cond.classLink RX3 70 "java/lang/IllegalStateException" ∈ wsL_law0 := in_4 _ (List.mem_of_getElem? (i := 10) rfl)
theorem wd83 : Cond.initialized "java/lang/IllegalStateException" ∈ wsL_law0 := in_4 _ (List.mem_of_getElem? (i := 11) rfl)
theorem wd84 : Cond.fieldLink RX3 77 "Stuntledger$Person" "isMinor" "Z" ∈ wsL_law0 := in_4 _ (List.mem_of_getElem? (i := 12) rfl)
theorem wd85 : Cond.fieldLink RX3 80 "Stuntledger$Person" "isMedic" "Z" ∈ wsL_law0 := in_4 _ (List.mem_of_getElem? (i := 13) rfl)
theorem wd86 : Cond.methodLink RX3 83 yX3_standDownOccupied ∈ wsL_law0 := in_4 _ (List.mem_of_getElem? (i := 14) rfl)
theorem wd87 : Cond.instanceMethod yX3_standDownOccupied ∈ wsL_law0 := in_4 _ (List.mem_of_getElem? (i := 15) rfl)
theorem wd88 : Cond.selects RX3 yX3_standDownOccupied yX3_standDownOccupied ∈ wsL_law0 := in_4 _ (List.mem_of_getElem? (i := 16) rfl)
theorem wd89 : Cond.code yX3_standDownOccupied cX3_standDownOccupied 2 none ∈ wsL_law0 := in_4 _ (List.mem_of_getElem? (i := 17) rfl)
theorem wd90 : Cond.methodLink RX3 357 yX3_isOccupied ∈ wsL_law0 := in_4 _ (List.mem_of_getElem? (i := 18) rfl)
theorem wd91 : Cond.instanceMethod yX3_isOccupied ∈ wsL_law0 := in_4 _ (List.mem_of_getElem? (i := 19) rfl)
theorem wd92 : Cond.selects RX3 yX3_isOccupied yX3_isOccupied ∈ wsL_law0 := in_4 _ (List.mem_of_getElem? (i := 20) rfl)
theorem wd93 : Cond.code yX3_isOccupied cX3_isOccupied 3 (some .boolean) ∈ wsL_law0 := in_4 _ (List.mem_of_getElem? (i := 21) rfl)
theorem wd94 : Cond.methodLink RX3 110 yX3_standsInRing ∈ wsL_law0 := in_4 _ (List.mem_of_getElem? (i := 22) rfl)
theorem wd95 : Cond.instanceMethod yX3_standsInRing ∈ wsL_law0 := in_4 _ (List.mem_of_getElem? (i := 23) rfl)
theorem wd96 : Cond.selects RX3 yX3_standsInRing yX3_standsInRing ∈ wsL_law0 := in_5 _ (List.mem_of_getElem? (i := 0) rfl)
theorem wd97 : Cond.code yX3_standsInRing cX3_standsInRing 3 (some .boolean) ∈ wsL_law0 := in_5 _ (List.mem_of_getElem? (i := 1) rfl)
theorem wd98 : Cond.fieldLink RX3 151 "Stuntledger$Gag" "performer" "I" ∈ wsL_law0 := in_5 _ (List.mem_of_getElem? (i := 2) rfl)
theorem wd99 : Cond.fieldLink RX3 104 "Stuntledger$Person" "place" "I" ∈ wsL_law0 := in_5 _ (List.mem_of_getElem? (i := 3) rfl)
theorem wd100 : Cond.fieldLink RX3 154 "Stuntledger$Gag" "place" "I" ∈ wsL_law0 := in_5 _ (List.mem_of_getElem? (i := 4) rfl)
theorem wd101 : Cond.methodLink RX3 351 yX3_distance ∈ wsL_law0 := in_5 _ (List.mem_of_getElem? (i := 5) rfl)
theorem wd102 : Cond.static yX3_distance ∈ wsL_law0 := in_5 _ (List.mem_of_getElem? (i := 6) rfl)
theorem wd103 : Cond.code yX3_distance cX3_distance 2 (some .int) ∈ wsL_law0 := in_5 _ (List.mem_of_getElem? (i := 7) rfl)
theorem wd104 : Cond.methodLink RX3 348 Lib.Math.abs.name ∈ wsL_law0 := in_5 _ (List.mem_of_getElem? (i := 8) rfl)
theorem wd105 : Cond.static Lib.Math.abs.name ∈ wsL_law0 := in_5 _ (List.mem_of_getElem? (i := 9) rfl)
theorem wd106 : Cond.initialized "java/lang/Math" ∈ wsL_law0 := in_5 _ (List.mem_of_getElem? (i := 10) rfl)
theorem wd107 : Cond.code Lib.Math.abs.name Lib.Math.abs.code 1 (some .int) ∈ wsL_law0 := in_5 _ (List.mem_of_getElem? (i := 11) rfl)
theorem wd108 : Cond.methodLink RX3 261 yX3_ringOf ∈ wsL_law0 := in_5 _ (List.mem_of_getElem? (i := 12) rfl)
theorem wd109 : Cond.instanceMethod yX3_ringOf ∈ wsL_law0 := in_5 _ (List.mem_of_getElem? (i := 13) rfl)
theorem wd110 : Cond.selects RX3 yX3_ringOf yX3_ringOf ∈ wsL_law0 := in_5 _ (List.mem_of_getElem? (i := 14) rfl)
theorem wd111 : Cond.code yX3_ringOf cX3_ringOf 2 (some .int) ∈ wsL_law0 := in_5 _ (List.mem_of_getElem? (i := 15) rfl)
theorem wd112 : Cond.fieldLink RX3 117 "Stuntledger$Gag" "kind" "I" ∈ wsL_law0 := in_5 _ (List.mem_of_getElem? (i := 16) rfl)
theorem wd113 : Cond.fieldLink RX3 155 "Stuntledger$Gag" "level" "I" ∈ wsL_law0 := in_5 _ (List.mem_of_getElem? (i := 17) rfl)
theorem wd114 : Cond.methodLink RX3 279 yX3_energyAt ∈ wsL_law0 := in_5 _ (List.mem_of_getElem? (i := 18) rfl)
theorem wd115 : Cond.instanceMethod yX3_energyAt ∈ wsL_law0 := in_5 _ (List.mem_of_getElem? (i := 19) rfl)
theorem wd116 : Cond.selects RX3 yX3_energyAt yX3_energyAt ∈ wsL_law0 := in_5 _ (List.mem_of_getElem? (i := 20) rfl)
theorem wd117 : Cond.code yX3_energyAt cX3_energyAt 3 (some .int) ∈ wsL_law0 := in_5 _ (List.mem_of_getElem? (i := 21) rfl)
theorem wd118 : Cond.methodLink RX3 114 yX3_standDown ∈ wsL_law0 := in_5 _ (List.mem_of_getElem? (i := 22) rfl)
theorem wd119 : Cond.instanceMethod yX3_standDown ∈ wsL_law0 := in_5 _ (List.mem_of_getElem? (i := 23) rfl)
theorem wd120 : Cond.selects RX3 yX3_standDown yX3_standDown ∈ wsL_law0 := in_6 _ (List.mem_of_getElem? (i := 0) rfl)
theorem wd121 : Cond.code yX3_standDown cX3_standDown 2 none ∈ wsL_law0 := in_6 _ (List.mem_of_getElem? (i := 1) rfl)
theorem wd122 : Cond.fieldLink RX3 107 "Stuntledger$Gag" "isArmed" "Z" ∈ wsL_law0 := in_6 _ (List.mem_of_getElem? (i := 2) rfl)
theorem wd123 : Cond.methodLink RL 25 yX3_skill ∈ wsL_law0 := in_6 _ (List.mem_of_getElem? (i := 3) rfl)
theorem wd124 : Cond.instanceMethod yX3_skill ∈ wsL_law0 := in_6 _ (List.mem_of_getElem? (i := 4) rfl)
theorem wd125 : Cond.selects RX3 yX3_skill yX3_skill ∈ wsL_law0 := in_6 _ (List.mem_of_getElem? (i := 5) rfl)
theorem wd126 : Cond.code yX3_skill cX3_skill 5 (some .int) ∈ wsL_law0 := in_6 _ (List.mem_of_getElem? (i := 6) rfl)
theorem wd127 : Cond.fieldLink RX3 97 "Stuntledger$Person" "skills" "[I" ∈ wsL_law0 := in_6 _ (List.mem_of_getElem? (i := 7) rfl)
theorem wd128 : Cond.methodLink RX3 86 yX3_requirePerson ∈ wsL_law0 := in_6 _ (List.mem_of_getElem? (i := 8) rfl)
theorem wd129 : Cond.instanceMethod yX3_requirePerson ∈ wsL_law0 := in_6 _ (List.mem_of_getElem? (i := 9) rfl)
theorem wd130 : Cond.selects RX3 yX3_requirePerson yX3_requirePerson ∈ wsL_law0 := in_6 _ (List.mem_of_getElem? (i := 10) rfl)
theorem wd131 : Cond.code yX3_requirePerson cX3_requirePerson 2 none ∈ wsL_law0 := in_6 _ (List.mem_of_getElem? (i := 11) rfl)
theorem wd132 : Cond.classLink RX3 194 "java/lang/IndexOutOfBoundsException" ∈ wsL_law0 := in_6 _ (List.mem_of_getElem? (i := 12) rfl)
theorem wd133 : Cond.initialized "java/lang/IndexOutOfBoundsException" ∈ wsL_law0 := in_6 _ (List.mem_of_getElem? (i := 13) rfl)
theorem wd134 : Cond.methodLink RX3 90 yX3_requireKind ∈ wsL_law0 := in_6 _ (List.mem_of_getElem? (i := 14) rfl)
theorem wd135 : Cond.static yX3_requireKind ∈ wsL_law0 := in_6 _ (List.mem_of_getElem? (i := 15) rfl)
theorem wd136 : Cond.code yX3_requireKind cX3_requireKind 1 none ∈ wsL_law0 := in_6 _ (List.mem_of_getElem? (i := 16) rfl)
theorem wd137 : Cond.methodLink RX3 93 yX3_requireRange ∈ wsL_law0 := in_6 _ (List.mem_of_getElem? (i := 17) rfl)
theorem wd138 : Cond.static yX3_requireRange ∈ wsL_law0 := in_6 _ (List.mem_of_getElem? (i := 18) rfl)
theorem wd139 : Cond.code yX3_requireRange cX3_requireRange 3 none ∈ wsL_law0 := in_6 _ (List.mem_of_getElem? (i := 19) rfl)
theorem wd140 : Cond.classLink RX3 338 "java/lang/IllegalArgumentException" ∈ wsL_law0 := in_6 _ (List.mem_of_getElem? (i := 20) rfl)
theorem wd141 : Cond.initialized "java/lang/IllegalArgumentException" ∈ wsL_law0 := in_6 _ (List.mem_of_getElem? (i := 21) rfl)
theorem wd142 : Cond.methodLink RL 29 yX3_walk ∈ wsL_law0 := in_6 _ (List.mem_of_getElem? (i := 22) rfl)
theorem wd143 : Cond.instanceMethod yX3_walk ∈ wsL_law0 := in_6 _ (List.mem_of_getElem? (i := 23) rfl)
theorem wd144 : Cond.selects RX3 yX3_walk yX3_walk ∈ wsL_law0 := in_7 _ (List.mem_of_getElem? (i := 0) rfl)
theorem wd145 : Cond.code yX3_walk cX3_walk 5 (some .int) ∈ wsL_law0 := in_7 _ (List.mem_of_getElem? (i := 1) rfl)
theorem wd146 : Cond.methodLink RX3 100 yX3_armedSet ∈ wsL_law0 := in_7 _ (List.mem_of_getElem? (i := 2) rfl)
theorem wd147 : Cond.instanceMethod yX3_armedSet ∈ wsL_law0 := in_7 _ (List.mem_of_getElem? (i := 3) rfl)
theorem wd148 : Cond.selects RX3 yX3_armedSet yX3_armedSet ∈ wsL_law0 := in_7 _ (List.mem_of_getElem? (i := 4) rfl)
theorem wd149 : Cond.code yX3_armedSet cX3_armedSet 3 (some .int) ∈ wsL_law0 := in_7 _ (List.mem_of_getElem? (i := 5) rfl)
theorem wd150 : Cond.methodLink RX3 120 yX3_addMiss ∈ wsL_law0 := in_7 _ (List.mem_of_getElem? (i := 6) rfl)
theorem wd151 : Cond.instanceMethod yX3_addMiss ∈ wsL_law0 := in_7 _ (List.mem_of_getElem? (i := 7) rfl)
theorem wd152 : Cond.selects RX3 yX3_addMiss yX3_addMiss ∈ wsL_law0 := in_7 _ (List.mem_of_getElem? (i := 8) rfl)
theorem wd153 : Cond.code yX3_addMiss cX3_addMiss 3 none ∈ wsL_law0 := in_7 _ (List.mem_of_getElem? (i := 9) rfl)
theorem wd154 : Cond.methodLink RX3 187 yX3_loseSignatures ∈ wsL_law0 := in_7 _ (List.mem_of_getElem? (i := 10) rfl)
theorem wd155 : Cond.instanceMethod yX3_loseSignatures ∈ wsL_law0 := in_7 _ (List.mem_of_getElem? (i := 11) rfl)
theorem wd156 : Cond.selects RX3 yX3_loseSignatures yX3_loseSignatures ∈ wsL_law0 := in_7 _ (List.mem_of_getElem? (i := 12) rfl)
theorem wd157 : Cond.code yX3_loseSignatures cX3_loseSignatures 2 none ∈ wsL_law0 := in_7 _ (List.mem_of_getElem? (i := 13) rfl)
theorem wd158 : Cond.fieldLink RX3 158 "Stuntledger$Gag" "signatures" "I" ∈ wsL_law0 := in_7 _ (List.mem_of_getElem? (i := 14) rfl)
theorem wd159 : Cond.methodLink RL 32 yX3_gag ∈ wsL_law0 := in_7 _ (List.mem_of_getElem? (i := 15) rfl)
theorem wd160 : Cond.instanceMethod yX3_gag ∈ wsL_law0 := in_7 _ (List.mem_of_getElem? (i := 16) rfl)
theorem wd161 : Cond.selects RX3 yX3_gag yX3_gag ∈ wsL_law0 := in_7 _ (List.mem_of_getElem? (i := 17) rfl)
theorem wd162 : Cond.code yX3_gag cX3_gag 6 (some .int) ∈ wsL_law0 := in_7 _ (List.mem_of_getElem? (i := 18) rfl)
theorem wd163 : Cond.methodLink RL 36 yX3_ofGag ∈ wsL_law0 := in_7 _ (List.mem_of_getElem? (i := 19) rfl)
theorem wd164 : Cond.instanceMethod yX3_ofGag ∈ wsL_law0 := in_7 _ (List.mem_of_getElem? (i := 20) rfl)
theorem wd165 : Cond.selects RX3 yX3_ofGag yX3_ofGag ∈ wsL_law0 := in_7 _ (List.mem_of_getElem? (i := 21) rfl)
theorem wd166 : Cond.code yX3_ofGag cX3_ofGag 4 (some .int) ∈ wsL_law0 := in_7 _ (List.mem_of_getElem? (i := 22) rfl)
theorem wd167 : Cond.fieldLink RX3 172 "Stuntledger$Gag" "step" "I" ∈ wsL_law0 := in_7 _ (List.mem_of_getElem? (i := 23) rfl)
theorem wd168 : Cond.fieldLink RX3 204 "Stuntledger$Gag" "noes" "I" ∈ wsL_law0 := in_8 _ (List.mem_of_getElem? (i := 0) rfl)
theorem wd169 : Cond.fieldLink RX3 218 "Stuntledger$Gag" "takenCount" "I" ∈ wsL_law0 := in_8 _ (List.mem_of_getElem? (i := 1) rfl)
theorem wd170 : Cond.methodLink RX3 138 yX3_requireGag ∈ wsL_law0 := in_8 _ (List.mem_of_getElem? (i := 2) rfl)
theorem wd171 : Cond.instanceMethod yX3_requireGag ∈ wsL_law0 := in_8 _ (List.mem_of_getElem? (i := 3) rfl)
theorem wd172 : Cond.selects RX3 yX3_requireGag yX3_requireGag ∈ wsL_law0 := in_8 _ (List.mem_of_getElem? (i := 4) rfl)
theorem wd173 : Cond.code yX3_requireGag cX3_requireGag 2 none ∈ wsL_law0 := in_8 _ (List.mem_of_getElem? (i := 5) rfl)
theorem wd174 : Cond.methodLink RX3 181 yX3_energyOf ∈ wsL_law0 := in_8 _ (List.mem_of_getElem? (i := 6) rfl)
theorem wd175 : Cond.instanceMethod yX3_energyOf ∈ wsL_law0 := in_8 _ (List.mem_of_getElem? (i := 7) rfl)
theorem wd176 : Cond.selects RX3 yX3_energyOf yX3_energyOf ∈ wsL_law0 := in_8 _ (List.mem_of_getElem? (i := 8) rfl)
theorem wd177 : Cond.code yX3_energyOf cX3_energyOf 2 (some .int) ∈ wsL_law0 := in_8 _ (List.mem_of_getElem? (i := 9) rfl)
theorem wd178 : Cond.methodLink RX3 264 yX3_guardOf ∈ wsL_law0 := in_8 _ (List.mem_of_getElem? (i := 10) rfl)
theorem wd179 : Cond.instanceMethod yX3_guardOf ∈ wsL_law0 := in_8 _ (List.mem_of_getElem? (i := 11) rfl)
theorem wd180 : Cond.selects RX3 yX3_guardOf yX3_guardOf ∈ wsL_law0 := in_8 _ (List.mem_of_getElem? (i := 12) rfl)
theorem wd181 : Cond.code yX3_guardOf cX3_guardOf 4 (some .int) ∈ wsL_law0 := in_8 _ (List.mem_of_getElem? (i := 13) rfl)
theorem wd182 : Cond.fieldLink RX3 126 "Stuntledger$Piece" "guard" "I" ∈ wsL_law0 := in_8 _ (List.mem_of_getElem? (i := 14) rfl)
theorem wd183 : Cond.methodLink RX3 345 yX3_guards ∈ wsL_law0 := in_8 _ (List.mem_of_getElem? (i := 15) rfl)
theorem wd184 : Cond.instanceMethod yX3_guards ∈ wsL_law0 := in_8 _ (List.mem_of_getElem? (i := 16) rfl)
theorem wd185 : Cond.selects RX3 yX3_guards yX3_guards ∈ wsL_law0 := in_8 _ (List.mem_of_getElem? (i := 17) rfl)
theorem wd186 : Cond.code yX3_guards cX3_guards 3 (some .boolean) ∈ wsL_law0 := in_8 _ (List.mem_of_getElem? (i := 18) rfl)
theorem wd187 : Cond.fieldLink RX3 141 "Stuntledger$Piece" "putTo" "I" ∈ wsL_law0 := in_8 _ (List.mem_of_getElem? (i := 19) rfl)
theorem wd188 : Cond.fieldLink RX3 125 "Stuntledger$Piece" "kind" "I" ∈ wsL_law0 := in_8 _ (List.mem_of_getElem? (i := 20) rfl)
theorem wd189 : Cond.methodLink RX3 258 yX3_isFit ∈ wsL_law0 := in_8 _ (List.mem_of_getElem? (i := 21) rfl)
theorem wd190 : Cond.instanceMethod yX3_isFit ∈ wsL_law0 := in_8 _ (List.mem_of_getElem? (i := 22) rfl)
theorem wd191 : Cond.selects RX3 yX3_isFit yX3_isFit ∈ wsL_law0 := in_8 _ (List.mem_of_getElem? (i := 23) rfl)
theorem wd192 : Cond.code yX3_isFit cX3_isFit 3 (some .boolean) ∈ wsL_law0 := in_9 _ (List.mem_of_getElem? (i := 0) rfl)
theorem wd193 : Cond.fieldLink RX3 129 "Stuntledger$Piece" "uses" "I" ∈ wsL_law0 := in_9 _ (List.mem_of_getElem? (i := 1) rfl)
theorem wd194 : Cond.fieldLink RX3 135 "Stuntledger$Piece" "inspectedDay" "I" ∈ wsL_law0 := in_9 _ (List.mem_of_getElem? (i := 2) rfl)
theorem wd195 : Cond.methodLink RX3 215 yX3_marginOf ∈ wsL_law0 := in_9 _ (List.mem_of_getElem? (i := 3) rfl)
theorem wd196 : Cond.instanceMethod yX3_marginOf ∈ wsL_law0 := in_9 _ (List.mem_of_getElem? (i := 4) rfl)
theorem wd197 : Cond.selects RX3 yX3_marginOf yX3_marginOf ∈ wsL_law0 := in_9 _ (List.mem_of_getElem? (i := 5) rfl)
theorem wd198 : Cond.code yX3_marginOf cX3_marginOf 2 (some .int) ∈ wsL_law0 := in_9 _ (List.mem_of_getElem? (i := 6) rfl)
theorem wd199 : Cond.methodLink RX3 285 yX3_performersShare ∈ wsL_law0 := in_9 _ (List.mem_of_getElem? (i := 7) rfl)
theorem wd200 : Cond.instanceMethod yX3_performersShare ∈ wsL_law0 := in_9 _ (List.mem_of_getElem? (i := 8) rfl)
theorem wd201 : Cond.selects RX3 yX3_performersShare yX3_performersShare ∈ wsL_law0 := in_9 _ (List.mem_of_getElem? (i := 9) rfl)
theorem wd202 : Cond.code yX3_performersShare cX3_performersShare 4 (some .int) ∈ wsL_law0 := in_9 _ (List.mem_of_getElem? (i := 10) rfl)
theorem wd203 : Cond.fieldLink RX3 246 "Stuntledger$Person" "tired" "I" ∈ wsL_law0 := in_9 _ (List.mem_of_getElem? (i := 11) rfl)
theorem wd204 : Cond.methodLink RX3 242 yX3_oneIf ∈ wsL_law0 := in_9 _ (List.mem_of_getElem? (i := 12) rfl)
theorem wd205 : Cond.static yX3_oneIf ∈ wsL_law0 := in_9 _ (List.mem_of_getElem? (i := 13) rfl)
theorem wd206 : Cond.code yX3_oneIf cX3_oneIf 1 (some .int) ∈ wsL_law0 := in_9 _ (List.mem_of_getElem? (i := 14) rfl)
theorem wd207 : Cond.methodLink RX3 209 yX3_whatBars ∈ wsL_law0 := in_9 _ (List.mem_of_getElem? (i := 15) rfl)
theorem wd208 : Cond.instanceMethod yX3_whatBars ∈ wsL_law0 := in_9 _ (List.mem_of_getElem? (i := 16) rfl)
theorem wd209 : Cond.selects RX3 yX3_whatBars yX3_whatBars ∈ wsL_law0 := in_9 _ (List.mem_of_getElem? (i := 17) rfl)
theorem wd210 : Cond.code yX3_whatBars cX3_whatBars 2 (some .int) ∈ wsL_law0 := in_9 _ (List.mem_of_getElem? (i := 18) rfl)
theorem wd211 : Cond.fieldLink RX3 167 "Stuntledger$Person" "isHurt" "Z" ∈ wsL_law0 := in_9 _ (List.mem_of_getElem? (i := 19) rfl)
theorem wd212 : Cond.methodLink RX3 161 yJ6_bitCount_0f7a4 ∈ wsL_law0 := in_9 _ (List.mem_of_getElem? (i := 20) rfl)
theorem wd213 : Cond.static yJ6_bitCount_0f7a4 ∈ wsL_law0 := in_9 _ (List.mem_of_getElem? (i := 21) rfl)
theorem wd214 : Cond.initialized RJ6 ∈ wsL_law0 := in_9 _ (List.mem_of_getElem? (i := 22) rfl)
theorem wd215 : Cond.code yJ6_bitCount_0f7a4 cJ6_bitCount_0f7a4 1 (some .int) ∈ wsL_law0 := in_9 _ (List.mem_of_getElem? (i := 23) rfl)
theorem wd216 : Cond.constant RJ6 265 (1431655765) ∈ wsL_law0 := in_10 _ (List.mem_of_getElem? (i := 0) rfl)
theorem wd217 : Cond.constant RJ6 266 (858993459) ∈ wsL_law0 := in_10 _ (List.mem_of_getElem? (i := 1) rfl)
theorem wd218 : Cond.constant RJ6 267 (252645135) ∈ wsL_law0 := in_10 _ (List.mem_of_getElem? (i := 2) rfl)
theorem wd219 : Cond.methodLink RX3 282 yX3_isTooYoung ∈ wsL_law0 := in_10 _ (List.mem_of_getElem? (i := 3) rfl)
theorem wd220 : Cond.instanceMethod yX3_isTooYoung ∈ wsL_law0 := in_10 _ (List.mem_of_getElem? (i := 4) rfl)
theorem wd221 : Cond.selects RX3 yX3_isTooYoung yX3_isTooYoung ∈ wsL_law0 := in_10 _ (List.mem_of_getElem? (i := 5) rfl)
theorem wd222 : Cond.code yX3_isTooYoung cX3_isTooYoung 3 (some .boolean) ∈ wsL_law0 := in_10 _ (List.mem_of_getElem? (i := 6) rfl)
theorem wd223 : Cond.methodLink RX3 230 yX3_windBars ∈ wsL_law0 := in_10 _ (List.mem_of_getElem? (i := 7) rfl)
theorem wd224 : Cond.instanceMethod yX3_windBars ∈ wsL_law0 := in_10 _ (List.mem_of_getElem? (i := 8) rfl)
theorem wd225 : Cond.selects RX3 yX3_windBars yX3_windBars ∈ wsL_law0 := in_10 _ (List.mem_of_getElem? (i := 9) rfl)
theorem wd226 : Cond.code yX3_windBars cX3_windBars 2 (some .boolean) ∈ wsL_law0 := in_10 _ (List.mem_of_getElem? (i := 10) rfl)
theorem wd227 : Cond.fieldLink RX3 363 "Stuntledger" "WIND_LIMITS" "[I" ∈ wsL_law0 := in_10 _ (List.mem_of_getElem? (i := 11) rfl)
theorem wd228 : Cond.methodLink RX3 234 yX3_darkBars ∈ wsL_law0 := in_10 _ (List.mem_of_getElem? (i := 12) rfl)
theorem wd229 : Cond.instanceMethod yX3_darkBars ∈ wsL_law0 := in_10 _ (List.mem_of_getElem? (i := 13) rfl)
theorem wd230 : Cond.selects RX3 yX3_darkBars yX3_darkBars ∈ wsL_law0 := in_10 _ (List.mem_of_getElem? (i := 14) rfl)
theorem wd231 : Cond.code yX3_darkBars cX3_darkBars 2 (some .boolean) ∈ wsL_law0 := in_10 _ (List.mem_of_getElem? (i := 15) rfl)
theorem wd232 : Cond.methodLink RX3 354 yX3_hasMedicAtHand ∈ wsL_law0 := in_10 _ (List.mem_of_getElem? (i := 16) rfl)
theorem wd233 : Cond.instanceMethod yX3_hasMedicAtHand ∈ wsL_law0 := in_10 _ (List.mem_of_getElem? (i := 17) rfl)
theorem wd234 : Cond.selects RX3 yX3_hasMedicAtHand yX3_hasMedicAtHand ∈ wsL_law0 := in_10 _ (List.mem_of_getElem? (i := 18) rfl)
theorem wd235 : Cond.code yX3_hasMedicAtHand cX3_hasMedicAtHand 4 (some .boolean) ∈ wsL_law0 := in_10 _ (List.mem_of_getElem? (i := 19) rfl)
theorem wd236 : Cond.methodLink RX3 366 yX3_isReadyMedic ∈ wsL_law0 := in_10 _ (List.mem_of_getElem? (i := 20) rfl)
theorem wd237 : Cond.instanceMethod yX3_isReadyMedic ∈ wsL_law0 := in_10 _ (List.mem_of_getElem? (i := 21) rfl)
theorem wd238 : Cond.selects RX3 yX3_isReadyMedic yX3_isReadyMedic ∈ wsL_law0 := in_10 _ (List.mem_of_getElem? (i := 22) rfl)
theorem wd239 : Cond.code yX3_isReadyMedic cX3_isReadyMedic 3 (some .boolean) ∈ wsL_law0 := in_10 _ (List.mem_of_getElem? (i := 23) rfl)
theorem wd240 : Cond.methodLink RX3 360 yX3_isNearArmed ∈ wsL_law0 := in_11 _ (List.mem_of_getElem? (i := 0) rfl)
theorem wd241 : Cond.instanceMethod yX3_isNearArmed ∈ wsL_law0 := in_11 _ (List.mem_of_getElem? (i := 1) rfl)
theorem wd242 : Cond.selects RX3 yX3_isNearArmed yX3_isNearArmed ∈ wsL_law0 := in_11 _ (List.mem_of_getElem? (i := 2) rfl)
theorem wd243 : Cond.code yX3_isNearArmed cX3_isNearArmed 3 (some .boolean) ∈ wsL_law0 := in_11 _ (List.mem_of_getElem? (i := 3) rfl)
theorem wd244 : Cond.methodLink RL 39 yX3_kit ∈ wsL_law0 := in_11 _ (List.mem_of_getElem? (i := 4) rfl)
theorem wd245 : Cond.instanceMethod yX3_kit ∈ wsL_law0 := in_11 _ (List.mem_of_getElem? (i := 5) rfl)
theorem wd246 : Cond.selects RX3 yX3_kit yX3_kit ∈ wsL_law0 := in_11 _ (List.mem_of_getElem? (i := 6) rfl)
theorem wd247 : Cond.code yX3_kit cX3_kit 5 (some .int) ∈ wsL_law0 := in_11 _ (List.mem_of_getElem? (i := 7) rfl)
theorem wd248 : Cond.methodLink RL 42 yX3_put ∈ wsL_law0 := in_11 _ (List.mem_of_getElem? (i := 8) rfl)
theorem wd249 : Cond.instanceMethod yX3_put ∈ wsL_law0 := in_11 _ (List.mem_of_getElem? (i := 9) rfl)
theorem wd250 : Cond.selects RX3 yX3_put yX3_put ∈ wsL_law0 := in_11 _ (List.mem_of_getElem? (i := 10) rfl)
theorem wd251 : Cond.code yX3_put cX3_put 4 (some .int) ∈ wsL_law0 := in_11 _ (List.mem_of_getElem? (i := 11) rfl)
theorem wd252 : Cond.methodLink RX3 132 yX3_requirePiece ∈ wsL_law0 := in_11 _ (List.mem_of_getElem? (i := 12) rfl)
theorem wd253 : Cond.instanceMethod yX3_requirePiece ∈ wsL_law0 := in_11 _ (List.mem_of_getElem? (i := 13) rfl)
theorem wd254 : Cond.selects RX3 yX3_requirePiece yX3_requirePiece ∈ wsL_law0 := in_11 _ (List.mem_of_getElem? (i := 14) rfl)
theorem wd255 : Cond.code yX3_requirePiece cX3_requirePiece 2 none ∈ wsL_law0 := in_11 _ (List.mem_of_getElem? (i := 15) rfl)
theorem wd256 : Cond.methodLink RX3 146 yX3_becomeChanged ∈ wsL_law0 := in_11 _ (List.mem_of_getElem? (i := 16) rfl)
theorem wd257 : Cond.instanceMethod yX3_becomeChanged ∈ wsL_law0 := in_11 _ (List.mem_of_getElem? (i := 17) rfl)
theorem wd258 : Cond.selects RX3 yX3_becomeChanged yX3_becomeChanged ∈ wsL_law0 := in_11 _ (List.mem_of_getElem? (i := 18) rfl)
theorem wd259 : Cond.code yX3_becomeChanged cX3_becomeChanged 2 none ∈ wsL_law0 := in_11 _ (List.mem_of_getElem? (i := 19) rfl)
theorem wd260 : Cond.methodLink RX3 175 Lib.Math.min.name ∈ wsL_law0 := in_11 _ (List.mem_of_getElem? (i := 20) rfl)
theorem wd261 : Cond.static Lib.Math.min.name ∈ wsL_law0 := in_11 _ (List.mem_of_getElem? (i := 21) rfl)
theorem wd262 : Cond.code Lib.Math.min.name Lib.Math.min.code 2 (some .int) ∈ wsL_law0 := in_11 _ (List.mem_of_getElem? (i := 22) rfl)
theorem wd263 : Cond.methodLink RL 45 yX3_inspect ∈ wsL_law0 := in_11 _ (List.mem_of_getElem? (i := 23) rfl)
theorem wd264 : Cond.instanceMethod yX3_inspect ∈ wsL_law0 := in_12 _ (List.mem_of_getElem? (i := 0) rfl)
theorem wd265 : Cond.selects RX3 yX3_inspect yX3_inspect ∈ wsL_law0 := in_12 _ (List.mem_of_getElem? (i := 1) rfl)
theorem wd266 : Cond.code yX3_inspect cX3_inspect 3 (some .int) ∈ wsL_law0 := in_12 _ (List.mem_of_getElem? (i := 2) rfl)
theorem wd267 : Cond.methodLink RL 63 yX3_ofKit ∈ wsL_law0 := in_12 _ (List.mem_of_getElem? (i := 3) rfl)
theorem wd268 : Cond.instanceMethod yX3_ofKit ∈ wsL_law0 := in_12 _ (List.mem_of_getElem? (i := 4) rfl)
theorem wd269 : Cond.selects RX3 yX3_ofKit yX3_ofKit ∈ wsL_law0 := in_12 _ (List.mem_of_getElem? (i := 5) rfl)
theorem wd270 : Cond.code yX3_ofKit cX3_ofKit 4 (some .int) ∈ wsL_law0 := in_12 _ (List.mem_of_getElem? (i := 6) rfl)
theorem wd271 : Cond.methodLink RL 66 yL_ready ∈ wsL_law0 := in_12 _ (List.mem_of_getElem? (i := 7) rfl)
theorem wd272 : Cond.static yL_ready ∈ wsL_law0 := in_12 _ (List.mem_of_getElem? (i := 8) rfl)
theorem wd273 : Cond.code yL_ready cL_ready 3 none ∈ wsL_law0 := in_12 _ (List.mem_of_getElem? (i := 9) rfl)
theorem wd274 : Cond.methodLink RL 49 yX3_ofPerson ∈ wsL_law0 := in_12 _ (List.mem_of_getElem? (i := 10) rfl)
theorem wd275 : Cond.instanceMethod yX3_ofPerson ∈ wsL_law0 := in_12 _ (List.mem_of_getElem? (i := 11) rfl)
theorem wd276 : Cond.selects RX3 yX3_ofPerson yX3_ofPerson ∈ wsL_law0 := in_12 _ (List.mem_of_getElem? (i := 12) rfl)
theorem wd277 : Cond.code yX3_ofPerson cX3_ofPerson 4 (some .int) ∈ wsL_law0 := in_12 _ (List.mem_of_getElem? (i := 13) rfl)
theorem wd278 : Cond.fieldLink RX3 249 "Stuntledger$Person" "pay" "I" ∈ wsL_law0 := in_12 _ (List.mem_of_getElem? (i := 14) rfl)
theorem wd279 : Cond.fieldLink RX3 252 "Stuntledger$Person" "tookCount" "I" ∈ wsL_law0 := in_12 _ (List.mem_of_getElem? (i := 15) rfl)
theorem wd280 : Cond.methodLink RX3 255 yX3_ringsAround ∈ wsL_law0 := in_12 _ (List.mem_of_getElem? (i := 16) rfl)
theorem wd281 : Cond.instanceMethod yX3_ringsAround ∈ wsL_law0 := in_12 _ (List.mem_of_getElem? (i := 17) rfl)
theorem wd282 : Cond.selects RX3 yX3_ringsAround yX3_ringsAround ∈ wsL_law0 := in_12 _ (List.mem_of_getElem? (i := 18) rfl)
theorem wd283 : Cond.code yX3_ringsAround cX3_ringsAround 4 (some .int) ∈ wsL_law0 := in_12 _ (List.mem_of_getElem? (i := 19) rfl)
theorem wd284 : Cond.methodLink RL 52 yX3_rehearse ∈ wsL_law0 := in_12 _ (List.mem_of_getElem? (i := 20) rfl)
theorem wd285 : Cond.instanceMethod yX3_rehearse ∈ wsL_law0 := in_12 _ (List.mem_of_getElem? (i := 21) rfl)
theorem wd286 : Cond.selects RX3 yX3_rehearse yX3_rehearse ∈ wsL_law0 := in_12 _ (List.mem_of_getElem? (i := 22) rfl)
theorem wd287 : Cond.code yX3_rehearse cX3_rehearse 6 (some .int) ∈ wsL_law0 := in_12 _ (List.mem_of_getElem? (i := 23) rfl)
theorem wd288 : Cond.methodLink RX3 184 yX3_marginWithoutEnergy ∈ wsL_law0 := in_13 _ (List.mem_of_getElem? (i := 0) rfl)
theorem wd289 : Cond.instanceMethod yX3_marginWithoutEnergy ∈ wsL_law0 := in_13 _ (List.mem_of_getElem? (i := 1) rfl)
theorem wd290 : Cond.selects RX3 yX3_marginWithoutEnergy yX3_marginWithoutEnergy ∈ wsL_law0 := in_13 _ (List.mem_of_getElem? (i := 2) rfl)
theorem wd291 : Cond.code yX3_marginWithoutEnergy cX3_marginWithoutEnergy 2 (some .int) ∈ wsL_law0 := in_13 _ (List.mem_of_getElem? (i := 3) rfl)
theorem wd292 : Cond.methodLink RX3 190 yX3_tire ∈ wsL_law0 := in_13 _ (List.mem_of_getElem? (i := 4) rfl)
theorem wd293 : Cond.static yX3_tire ∈ wsL_law0 := in_13 _ (List.mem_of_getElem? (i := 5) rfl)
theorem wd294 : Cond.code yX3_tire cX3_tire 2 none ∈ wsL_law0 := in_13 _ (List.mem_of_getElem? (i := 6) rfl)
theorem wd295 : Cond.methodLink RL 55 yX3_sign ∈ wsL_law0 := in_13 _ (List.mem_of_getElem? (i := 7) rfl)
theorem wd296 : Cond.instanceMethod yX3_sign ∈ wsL_law0 := in_13 _ (List.mem_of_getElem? (i := 8) rfl)
theorem wd297 : Cond.selects RX3 yX3_sign yX3_sign ∈ wsL_law0 := in_13 _ (List.mem_of_getElem? (i := 9) rfl)
theorem wd298 : Cond.code yX3_sign cX3_sign 4 (some .int) ∈ wsL_law0 := in_13 _ (List.mem_of_getElem? (i := 10) rfl)
theorem wd299 : Cond.methodLink RX3 199 yX3_isInSet ∈ wsL_law0 := in_13 _ (List.mem_of_getElem? (i := 11) rfl)
theorem wd300 : Cond.static yX3_isInSet ∈ wsL_law0 := in_13 _ (List.mem_of_getElem? (i := 12) rfl)
theorem wd301 : Cond.code yX3_isInSet cX3_isInSet 2 (some .boolean) ∈ wsL_law0 := in_13 _ (List.mem_of_getElem? (i := 13) rfl)
theorem wd302 : Cond.methodLink RL 70 yX3_arm ∈ wsL_law0 := in_13 _ (List.mem_of_getElem? (i := 14) rfl)
theorem wd303 : Cond.instanceMethod yX3_arm ∈ wsL_law0 := in_13 _ (List.mem_of_getElem? (i := 15) rfl)
theorem wd304 : Cond.selects RX3 yX3_arm yX3_arm ∈ wsL_law0 := in_13 _ (List.mem_of_getElem? (i := 16) rfl)
theorem wd305 : Cond.code yX3_arm cX3_arm 3 (some .int) ∈ wsL_law0 := in_13 _ (List.mem_of_getElem? (i := 17) rfl)
theorem wd306 : Cond.methodLink RL 73 yX3_take ∈ wsL_law0 := in_13 _ (List.mem_of_getElem? (i := 18) rfl)
theorem wd307 : Cond.instanceMethod yX3_take ∈ wsL_law0 := in_13 _ (List.mem_of_getElem? (i := 19) rfl)
theorem wd308 : Cond.selects RX3 yX3_take yX3_take ∈ wsL_law0 := in_13 _ (List.mem_of_getElem? (i := 20) rfl)
theorem wd309 : Cond.code yX3_take cX3_take 4 (some .int) ∈ wsL_law0 := in_13 _ (List.mem_of_getElem? (i := 21) rfl)
theorem wd310 : Cond.methodLink RX3 212 yX3_requireArmed ∈ wsL_law0 := in_13 _ (List.mem_of_getElem? (i := 22) rfl)
theorem wd311 : Cond.instanceMethod yX3_requireArmed ∈ wsL_law0 := in_13 _ (List.mem_of_getElem? (i := 23) rfl)
theorem wd312 : Cond.selects RX3 yX3_requireArmed yX3_requireArmed ∈ wsL_law0 := in_14 _ (List.mem_of_getElem? (i := 0) rfl)
theorem wd313 : Cond.code yX3_requireArmed cX3_requireArmed 2 none ∈ wsL_law0 := in_14 _ (List.mem_of_getElem? (i := 1) rfl)
theorem wd314 : Cond.methodLink RX3 221 yX3_hurt ∈ wsL_law0 := in_14 _ (List.mem_of_getElem? (i := 2) rfl)
theorem wd315 : Cond.instanceMethod yX3_hurt ∈ wsL_law0 := in_14 _ (List.mem_of_getElem? (i := 3) rfl)
theorem wd316 : Cond.selects RX3 yX3_hurt yX3_hurt ∈ wsL_law0 := in_14 _ (List.mem_of_getElem? (i := 4) rfl)
theorem wd317 : Cond.code yX3_hurt cX3_hurt 3 none ∈ wsL_law0 := in_14 _ (List.mem_of_getElem? (i := 5) rfl)
theorem wd318 : Cond.fieldLink RX3 369 "Stuntledger$Person" "hurtDay" "I" ∈ wsL_law0 := in_14 _ (List.mem_of_getElem? (i := 6) rfl)
theorem wd319 : Cond.methodLink RX3 224 yX3_useKitOf ∈ wsL_law0 := in_14 _ (List.mem_of_getElem? (i := 7) rfl)
theorem wd320 : Cond.instanceMethod yX3_useKitOf ∈ wsL_law0 := in_14 _ (List.mem_of_getElem? (i := 8) rfl)
theorem wd321 : Cond.selects RX3 yX3_useKitOf yX3_useKitOf ∈ wsL_law0 := in_14 _ (List.mem_of_getElem? (i := 9) rfl)
theorem wd322 : Cond.code yX3_useKitOf cX3_useKitOf 3 none ∈ wsL_law0 := in_14 _ (List.mem_of_getElem? (i := 10) rfl)
theorem wd323 : Cond.methodLink RX3 227 yX3_payFor ∈ wsL_law0 := in_14 _ (List.mem_of_getElem? (i := 11) rfl)
theorem wd324 : Cond.instanceMethod yX3_payFor ∈ wsL_law0 := in_14 _ (List.mem_of_getElem? (i := 12) rfl)
theorem wd325 : Cond.selects RX3 yX3_payFor yX3_payFor ∈ wsL_law0 := in_14 _ (List.mem_of_getElem? (i := 13) rfl)
theorem wd326 : Cond.code yX3_payFor cX3_payFor 5 none ∈ wsL_law0 := in_14 _ (List.mem_of_getElem? (i := 14) rfl)
theorem wd327 : Cond.methodLink RL 76 yX3_no ∈ wsL_law0 := in_14 _ (List.mem_of_getElem? (i := 15) rfl)
theorem wd328 : Cond.instanceMethod yX3_no ∈ wsL_law0 := in_14 _ (List.mem_of_getElem? (i := 16) rfl)
theorem wd329 : Cond.selects RX3 yX3_no yX3_no ∈ wsL_law0 := in_14 _ (List.mem_of_getElem? (i := 17) rfl)
theorem wd330 : Cond.code yX3_no cX3_no 5 (some .boolean) ∈ wsL_law0 := in_14 _ (List.mem_of_getElem? (i := 18) rfl)
theorem wd331 : Cond.methodLink RL 80 yX3_weather ∈ wsL_law0 := in_14 _ (List.mem_of_getElem? (i := 19) rfl)
theorem wd332 : Cond.instanceMethod yX3_weather ∈ wsL_law0 := in_14 _ (List.mem_of_getElem? (i := 20) rfl)
theorem wd333 : Cond.selects RX3 yX3_weather yX3_weather ∈ wsL_law0 := in_14 _ (List.mem_of_getElem? (i := 21) rfl)
theorem wd334 : Cond.code yX3_weather cX3_weather 5 (some .int) ∈ wsL_law0 := in_14 _ (List.mem_of_getElem? (i := 22) rfl)
theorem wd335 : Cond.methodLink RL 84 yX3_many ∈ wsL_law0 := in_14 _ (List.mem_of_getElem? (i := 23) rfl)
theorem wd336 : Cond.instanceMethod yX3_many ∈ wsL_law0 := in_15 _ (List.mem_of_getElem? (i := 0) rfl)
theorem wd337 : Cond.selects RX3 yX3_many yX3_many ∈ wsL_law0 := in_15 _ (List.mem_of_getElem? (i := 1) rfl)
theorem wd338 : Cond.code yX3_many cX3_many 2 (some .int) ∈ wsL_law0 := in_15 _ (List.mem_of_getElem? (i := 2) rfl)
theorem wd339 : Cond.methodLink RX3 267 yX3_fitCount ∈ wsL_law0 := in_15 _ (List.mem_of_getElem? (i := 3) rfl)
theorem wd340 : Cond.instanceMethod yX3_fitCount ∈ wsL_law0 := in_15 _ (List.mem_of_getElem? (i := 4) rfl)
theorem wd341 : Cond.selects RX3 yX3_fitCount yX3_fitCount ∈ wsL_law0 := in_15 _ (List.mem_of_getElem? (i := 5) rfl)
theorem wd342 : Cond.code yX3_fitCount cX3_fitCount 3 (some .int) ∈ wsL_law0 := in_15 _ (List.mem_of_getElem? (i := 6) rfl)
theorem wd343 : Cond.methodLink RX3 270 yX3_missesOfAll ∈ wsL_law0 := in_15 _ (List.mem_of_getElem? (i := 7) rfl)
theorem wd344 : Cond.instanceMethod yX3_missesOfAll ∈ wsL_law0 := in_15 _ (List.mem_of_getElem? (i := 8) rfl)
theorem wd345 : Cond.selects RX3 yX3_missesOfAll yX3_missesOfAll ∈ wsL_law0 := in_15 _ (List.mem_of_getElem? (i := 9) rfl)
theorem wd346 : Cond.code yX3_missesOfAll cX3_missesOfAll 3 (some .int) ∈ wsL_law0 := in_15 _ (List.mem_of_getElem? (i := 10) rfl)
theorem wd347 : Cond.methodLink RX3 273 yX3_hurtCount ∈ wsL_law0 := in_15 _ (List.mem_of_getElem? (i := 11) rfl)
theorem wd348 : Cond.instanceMethod yX3_hurtCount ∈ wsL_law0 := in_15 _ (List.mem_of_getElem? (i := 12) rfl)
theorem wd349 : Cond.selects RX3 yX3_hurtCount yX3_hurtCount ∈ wsL_law0 := in_15 _ (List.mem_of_getElem? (i := 13) rfl)
theorem wd350 : Cond.code yX3_hurtCount cX3_hurtCount 3 (some .int) ∈ wsL_law0 := in_15 _ (List.mem_of_getElem? (i := 14) rfl)
theorem wd351 : Cond.methodLink RX3 276 yX3_payOfAll ∈ wsL_law0 := in_15 _ (List.mem_of_getElem? (i := 15) rfl)
theorem wd352 : Cond.instanceMethod yX3_payOfAll ∈ wsL_law0 := in_15 _ (List.mem_of_getElem? (i := 16) rfl)
theorem wd353 : Cond.selects RX3 yX3_payOfAll yX3_payOfAll ∈ wsL_law0 := in_15 _ (List.mem_of_getElem? (i := 17) rfl)
theorem wd354 : Cond.code yX3_payOfAll cX3_payOfAll 3 (some .int) ∈ wsL_law0 := in_15 _ (List.mem_of_getElem? (i := 18) rfl)
theorem wd355 : Cond.methodLink RL 87 yX3_pass ∈ wsL_law0 := in_15 _ (List.mem_of_getElem? (i := 19) rfl)
theorem wd356 : Cond.instanceMethod yX3_pass ∈ wsL_law0 := in_15 _ (List.mem_of_getElem? (i := 20) rfl)
theorem wd357 : Cond.selects RX3 yX3_pass yX3_pass ∈ wsL_law0 := in_15 _ (List.mem_of_getElem? (i := 21) rfl)
theorem wd358 : Cond.code yX3_pass cX3_pass 3 (some .int) ∈ wsL_law0 := in_15 _ (List.mem_of_getElem? (i := 22) rfl)
theorem wd359 : Cond.methodLink RX3 239 yX3_passOneDay ∈ wsL_law0 := in_15 _ (List.mem_of_getElem? (i := 23) rfl)
theorem wd360 : Cond.instanceMethod yX3_passOneDay ∈ wsL_law0 := in_16 _ (List.mem_of_getElem? (i := 0) rfl)
theorem wd361 : Cond.selects RX3 yX3_passOneDay yX3_passOneDay ∈ wsL_law0 := in_16 _ (List.mem_of_getElem? (i := 1) rfl)
theorem wd362 : Cond.code yX3_passOneDay cX3_passOneDay 3 none ∈ wsL_law0 := in_16 _ (List.mem_of_getElem? (i := 2) rfl)
theorem wd363 : Cond.methodLink RX3 372 Lib.Math.max.name ∈ wsL_law0 := in_16 _ (List.mem_of_getElem? (i := 3) rfl)
theorem wd364 : Cond.static Lib.Math.max.name ∈ wsL_law0 := in_16 _ (List.mem_of_getElem? (i := 4) rfl)
theorem wd365 : Cond.code Lib.Math.max.name Lib.Math.max.code 2 (some .int) ∈ wsL_law0 := in_16 _ (List.mem_of_getElem? (i := 5) rfl)
theorem wd366 : Cond.methodLink RL 90 yX3_change ∈ wsL_law0 := in_16 _ (List.mem_of_getElem? (i := 6) rfl)
theorem wd367 : Cond.instanceMethod yX3_change ∈ wsL_law0 := in_16 _ (List.mem_of_getElem? (i := 7) rfl)
theorem wd368 : Cond.selects RX3 yX3_change yX3_change ∈ wsL_law0 := in_16 _ (List.mem_of_getElem? (i := 8) rfl)
theorem wd369 : Cond.code yX3_change cX3_change 6 (some .int) ∈ wsL_law0 := in_16 _ (List.mem_of_getElem? (i := 9) rfl)
theorem wd370 : Cond.methodLink RL 93 yL_isSound ∈ wsL_law0 := in_16 _ (List.mem_of_getElem? (i := 10) rfl)
theorem wd371 : Cond.static yL_isSound ∈ wsL_law0 := in_16 _ (List.mem_of_getElem? (i := 11) rfl)
theorem wd372 : Cond.code yL_isSound cL_isSound 3 (some .boolean) ∈ wsL_law0 := in_16 _ (List.mem_of_getElem? (i := 12) rfl)
theorem wd373 : Cond.methodLink RL 97 yX3_digest ∈ wsL_law0 := in_16 _ (List.mem_of_getElem? (i := 13) rfl)
theorem wd374 : Cond.instanceMethod yX3_digest ∈ wsL_law0 := in_16 _ (List.mem_of_getElem? (i := 14) rfl)
theorem wd375 : Cond.selects RX3 yX3_digest yX3_digest ∈ wsL_law0 := in_16 _ (List.mem_of_getElem? (i := 15) rfl)
theorem wd376 : Cond.code yX3_digest cX3_digest 5 (some .long) ∈ wsL_law0 := in_16 _ (List.mem_of_getElem? (i := 16) rfl)
theorem wd377 : Cond.constantLong RX3 294 (58230) ∈ wsL_law0 := in_16 _ (List.mem_of_getElem? (i := 17) rfl)
theorem wd378 : Cond.methodLink RX3 296 yX3_many ∈ wsL_law0 := in_16 _ (List.mem_of_getElem? (i := 18) rfl)
theorem wd379 : Cond.methodLink RX3 299 yX3_mixed ∈ wsL_law0 := in_16 _ (List.mem_of_getElem? (i := 19) rfl)
theorem wd380 : Cond.static yX3_mixed ∈ wsL_law0 := in_16 _ (List.mem_of_getElem? (i := 20) rfl)
theorem wd381 : Cond.code yX3_mixed cX3_mixed 3 (some .long) ∈ wsL_law0 := in_16 _ (List.mem_of_getElem? (i := 21) rfl)
theorem wd382 : Cond.constantLong RX3 328 (31) ∈ wsL_law0 := in_16 _ (List.mem_of_getElem? (i := 22) rfl)
theorem wd383 : Cond.methodLink RX3 303 yX3_ofPerson ∈ wsL_law0 := in_16 _ (List.mem_of_getElem? (i := 23) rfl)
theorem wd384 : Cond.methodLink RX3 306 yX3_ofKit ∈ wsL_law0 := in_17 _ (List.mem_of_getElem? (i := 0) rfl)
theorem wd385 : Cond.methodLink RX3 309 yX3_ofGag ∈ wsL_law0 := in_17 _ (List.mem_of_getElem? (i := 1) rfl)
theorem wd386 : Cond.methodLink RX3 312 yX3_mostLevel ∈ wsL_law0 := in_17 _ (List.mem_of_getElem? (i := 2) rfl)
theorem wd387 : Cond.instanceMethod yX3_mostLevel ∈ wsL_law0 := in_17 _ (List.mem_of_getElem? (i := 3) rfl)
theorem wd388 : Cond.selects RX3 yX3_mostLevel yX3_mostLevel ∈ wsL_law0 := in_17 _ (List.mem_of_getElem? (i := 4) rfl)
theorem wd389 : Cond.code yX3_mostLevel cX3_mostLevel 4 (some .int) ∈ wsL_law0 := in_17 _ (List.mem_of_getElem? (i := 5) rfl)
theorem wd390 : Cond.methodLink RX3 315 yX3_bestPerformer ∈ wsL_law0 := in_17 _ (List.mem_of_getElem? (i := 6) rfl)
theorem wd391 : Cond.instanceMethod yX3_bestPerformer ∈ wsL_law0 := in_17 _ (List.mem_of_getElem? (i := 7) rfl)
theorem wd392 : Cond.selects RX3 yX3_bestPerformer yX3_bestPerformer ∈ wsL_law0 := in_17 _ (List.mem_of_getElem? (i := 8) rfl)
theorem wd393 : Cond.code yX3_bestPerformer cX3_bestPerformer 6 (some .int) ∈ wsL_law0 := in_17 _ (List.mem_of_getElem? (i := 9) rfl)
theorem wd394 : Cond.methodLink RX3 318 yX3_needs ∈ wsL_law0 := in_17 _ (List.mem_of_getElem? (i := 10) rfl)
theorem wd395 : Cond.instanceMethod yX3_needs ∈ wsL_law0 := in_17 _ (List.mem_of_getElem? (i := 11) rfl)
theorem wd396 : Cond.selects RX3 yX3_needs yX3_needs ∈ wsL_law0 := in_17 _ (List.mem_of_getElem? (i := 12) rfl)
theorem wd397 : Cond.code yX3_needs cX3_needs 6 (some .int) ∈ wsL_law0 := in_17 _ (List.mem_of_getElem? (i := 13) rfl)
theorem wd398 : Cond.methodLink RX3 288 yX3_bestFreePiece ∈ wsL_law0 := in_17 _ (List.mem_of_getElem? (i := 14) rfl)
theorem wd399 : Cond.instanceMethod yX3_bestFreePiece ∈ wsL_law0 := in_17 _ (List.mem_of_getElem? (i := 15) rfl)
theorem wd400 : Cond.selects RX3 yX3_bestFreePiece yX3_bestFreePiece ∈ wsL_law0 := in_17 _ (List.mem_of_getElem? (i := 16) rfl)
theorem wd401 : Cond.code yX3_bestFreePiece cX3_bestFreePiece 6 (some .int) ∈ wsL_law0 := in_17 _ (List.mem_of_getElem? (i := 17) rfl)
theorem wd402 : Cond.methodLink RX3 321 yX3_safeFrom ∈ wsL_law0 := in_17 _ (List.mem_of_getElem? (i := 18) rfl)
theorem wd403 : Cond.instanceMethod yX3_safeFrom ∈ wsL_law0 := in_17 _ (List.mem_of_getElem? (i := 19) rfl)
theorem wd404 : Cond.selects RX3 yX3_safeFrom yX3_safeFrom ∈ wsL_law0 := in_17 _ (List.mem_of_getElem? (i := 20) rfl)
theorem wd405 : Cond.code yX3_safeFrom cX3_safeFrom 4 (some .int) ∈ wsL_law0 := in_17 _ (List.mem_of_getElem? (i := 21) rfl)
theorem wd406 : Cond.methodLink RX3 291 yX3_isClearPlace ∈ wsL_law0 := in_17 _ (List.mem_of_getElem? (i := 22) rfl)
theorem wd407 : Cond.instanceMethod yX3_isClearPlace ∈ wsL_law0 := in_17 _ (List.mem_of_getElem? (i := 23) rfl)
theorem wd408 : Cond.selects RX3 yX3_isClearPlace yX3_isClearPlace ∈ wsL_law0 := in_18 _ (List.mem_of_getElem? (i := 0) rfl)
theorem wd409 : Cond.code yX3_isClearPlace cX3_isClearPlace 3 (some .boolean) ∈ wsL_law0 := in_18 _ (List.mem_of_getElem? (i := 1) rfl)
theorem wd410 : Cond.methodLink RX3 324 yX3_ofKind ∈ wsL_law0 := in_18 _ (List.mem_of_getElem? (i := 2) rfl)
theorem wd411 : Cond.instanceMethod yX3_ofKind ∈ wsL_law0 := in_18 _ (List.mem_of_getElem? (i := 3) rfl)
theorem wd412 : Cond.selects RX3 yX3_ofKind yX3_ofKind ∈ wsL_law0 := in_18 _ (List.mem_of_getElem? (i := 4) rfl)
theorem wd413 : Cond.code yX3_ofKind cX3_ofKind 3 (some .int) ∈ wsL_law0 := in_18 _ (List.mem_of_getElem? (i := 5) rfl)
theorem wd414 : Cond.methodLink RL 101 yX3_mostLevel ∈ wsL_law0 := in_18 _ (List.mem_of_getElem? (i := 6) rfl)
theorem wd415 : Cond.methodLink RL 104 yX3_safeFrom ∈ wsL_law0 := in_18 _ (List.mem_of_getElem? (i := 7) rfl)
theorem gw_of {w0 : List Cond} {y : MethodName} {b : ByteArray} {n : Nat} {r : Option FieldType} (h0 : ∀ w ∈ w0, w ∈ wsL_law0) (hc : Cond.code y b n r ∈ wsL_law0) : GoodIn wsL_law0 (w0 ++ wm y b n r) := by
  intro w hw
  have hm : w ∈ wsL_law0 := by
    rcases List.mem_append.mp hw with h | h
    · exact h0 w h
    · rcases List.mem_cons.mp h with rfl | h
      · exact hc
      · exact h
  exact ⟨hm, good_of_word (go_all w hm)⟩
theorem q_cwV {R : Room} {s : State} {args : Array Value} {own : String} {index : Nat} {y : MethodName} {b : ByteArray} {n k : Nat} {r : Option FieldType} {rm : Room} (hts : ∀ w ∈ wsL_law0, w.before args s = true) (h1 : Cond.methodLink own index y ∈ wsL_law0) (h2 : Cond.instanceMethod y ∈ wsL_law0) (h3 : Cond.selects RX3 y y ∈ wsL_law0) (h4 : Cond.initialized RX3 ∈ wsL_law0) (h5 : Cond.code y b n r ∈ wsL_law0) (hrc : rm.cells = 0) (hrs : rm.slots = 0) (hd : y.cls ≠ "java/lang/invoke/MethodHandle" ∧ y.cls ≠ "java/lang/invoke/VarHandle" ∧ (parseMethodDescriptor y.desc).map (fun d => d.parameters.length) = some k) (hy : y.cls = RX3) (hR : rm.frames + 1 ≤ R.frames ∧ 8 + (n + 11) + rm.locals ≤ R.locals) : CallW R s args own RX3 index y b n r (wm y b n r) rm 0 0 k := by
  refine cwV k hts (gw_of (w0 := [_, _, _, _]) ?_ h5) rfl hrc hrs ⟨hy, hd⟩ hR
  intro w hw
  simp only [List.mem_cons, List.not_mem_nil, or_false] at hw
  rcases hw with rfl | rfl | rfl | rfl <;> (first | assumption | (rw [hy]; assumption))
theorem q_cwS {R : Room} {s : State} {args : Array Value} {own : String} {index : Nat} {y : MethodName} {b : ByteArray} {n k : Nat} {r : Option FieldType} {rm : Room} (hts : ∀ w ∈ wsL_law0, w.before args s = true) (h1 : Cond.methodLink own index y ∈ wsL_law0) (h2 : Cond.static y ∈ wsL_law0) (h4 : Cond.initialized y.cls ∈ wsL_law0) (h5 : Cond.code y b n r ∈ wsL_law0) (hrc : rm.cells = 0) (hrs : rm.slots = 0) (hd : y.cls ≠ "java/lang/invoke/MethodHandle" ∧ y.cls ≠ "java/lang/invoke/VarHandle" ∧ (parseMethodDescriptor y.desc).map (fun d => d.parameters.length) = some k) (hR : rm.frames + 1 ≤ R.frames ∧ 8 + (n + 11) + rm.locals ≤ R.locals) : CallB R s args own index y b n r (wm y b n r) rm 0 0 k ∧ (Cond.static y).before args s = true := by
  refine va_cwS k hts (gw_of (w0 := [_, _, _]) ?_ h5) rfl hrc hrs hd hR
  intro w hw
  simp only [List.mem_cons, List.not_mem_nil, or_false] at hw
  rcases hw with rfl | rfl | rfl <;> assumption
theorem q_open {p : Program} {l : Launch} {y : MethodName} {cc : ByteArray} {n : Nat} {ret : Option FieldType} {rm : Room} {e : Env} {s : State} {m : MethodId} {args : Array Value} {below : List Frame} {meth : Method} {c : Code} {s₁ : State} {own : String} {D : va_G} {ad : Nat → Nat} {ca : Nat → ClassId} {tw : Nat} {σ : St} (B : BodyLoose p l y (headSpec (wm y cc n ret) rm) cc n ret e s m args below meth c s₁) (hy : y.cls = own) (hml : c.maxLocals = n) (hI : ∀ i j, i < 40 → j < 40 → ad i = ad j → i = j) (hv : wPre D ad ca tw σ s) : Cx p s m args c own cc n D ad ca tw (Aw ad) := by
  have hown := findClass_of_methodNamed B.named
  rw [hy] at hown
  exact ⟨B.exec, B.bytes, hml, hown, fun w hw => atoms_spec (ws := wm y cc n ret) B.pre w (List.mem_cons_of_mem _ hw), hv.2.1, hI, hv.2.2.1, hv.2.2.2, fun _ h => h⟩
end
section
/-! ===== what every state of a ledger keeps, and what its rows need of it ===== -/
def inr (x c : Int32) : Prop := 0 ≤ x.toInt ∧ x.toInt < c.toInt
def b01 (x : Int32) : Prop := x = 0 ∨ x = 1
/-- counts, the wind, each gag's kind, performer, level and armed bit, each piece's gag, lights -/
def WF (σ : St) : Prop :=
  (0 ≤ (σ.1 0 3).toInt ∧ (σ.1 0 3).toInt ≤ 8) ∧ (0 ≤ (σ.1 0 4).toInt ∧ (σ.1 0 4).toInt ≤ 12) ∧ (0 ≤ (σ.1 0 5).toInt ∧ (σ.1 0 5).toInt ≤ 6) ∧ (0 ≤ (σ.1 0 9).toInt ∧ (σ.1 0 9).toInt ≤ 9) ∧
  (∀ i, i < 6 → vp_in (σ.1 (34 + i) 0) 4 ∧ vp_in (σ.1 (34 + i) 1) 8 ∧ vp_in (σ.1 (34 + i) 3) 31 ∧ b01 (σ.1 (34 + i) 8)) ∧
  (∀ i, i < 12 → σ.1 (22 + i) 4 = -1 ∨ vp_in (σ.1 (22 + i) 4) 6)
theorem ix_lt {x : Int32} {n : Nat} (h : vp_in x n) : x.toNatClampNeg < n := Nat.not_le.mp fun q => h (Or.inr q)
theorem vp_to {x : Int32} {n : Nat} (h0 : 0 ≤ x.toInt) (h1 : x.toInt < n) : vp_in x n := vp_in_iff.mpr ⟨h0, h1⟩
theorem vp_of {x c : Int32} {n : Nat} (h : inr x c) (hc : c.toInt ≤ n) : vp_in x n := vp_to h.1 (by have := h.2; omega)
theorem WF.gk {σ : St} (h : WF σ) {g : Int32} (hg : vp_in g 6) : vp_in (σ.1 (34 + g.toNatClampNeg) 0) 4 := (h.2.2.2.2.1 _ (ix_lt hg)).1
theorem WF.gp {σ : St} (h : WF σ) {g : Int32} (hg : vp_in g 6) : vp_in (σ.1 (34 + g.toNatClampNeg) 1) 8 := (h.2.2.2.2.1 _ (ix_lt hg)).2.1
theorem WF.gl {σ : St} (h : WF σ) {g : Int32} (hg : vp_in g 6) : vp_in (σ.1 (34 + g.toNatClampNeg) 3) 31 := (h.2.2.2.2.1 _ (ix_lt hg)).2.2.1
theorem WF.ga {σ : St} (h : WF σ) {g : Int32} (hg : vp_in g 6) : b01 (σ.1 (34 + g.toNatClampNeg) 8) := (h.2.2.2.2.1 _ (ix_lt hg)).2.2.2
theorem WF.kt {σ : St} (h : WF σ) {k : Int32} (hk : vp_in k 12) : σ.1 (22 + k.toNatClampNeg) 4 = -1 ∨ vp_in (σ.1 (22 + k.toNatClampNeg) 4) 6 := h.2.2.2.2.2 _ (ix_lt hk)
theorem WF.p8 {σ : St} (h : WF σ) {x : Int32} (hx : inr x (σ.1 0 3)) : vp_in x 8 := vp_of hx h.1.2
theorem WF.k12 {σ : St} (h : WF σ) {x : Int32} (hx : inr x (σ.1 0 4)) : vp_in x 12 := vp_of hx h.2.1.2
theorem WF.g6 {σ : St} (h : WF σ) {x : Int32} (hx : inr x (σ.1 0 5)) : vp_in x 6 := vp_of hx h.2.2.1.2
theorem nb01 {x : Int32} (h : b01 x) : narrow .boolean (.int x) = .int x := by rcases h with rfl | rfl <;> rfl
theorem fb01 {x : Int32} (h : b01 x) : fits .boolean (.int x) = true := by rcases h with rfl | rfl <;> rfl
theorem i_lt {a b : Int32} : a < b ↔ a.toInt < b.toInt := Int32.lt_iff_toInt_lt
theorem i_le {a b : Int32} : a ≤ b ↔ a.toInt ≤ b.toInt := Int32.le_iff_toInt_le
theorem i_nle {a b : Int32} (h : ¬ a ≤ b) : b.toInt < a.toInt := by rw [i_le] at h; omega
theorem i_nlt {a b : Int32} (h : ¬ a < b) : b.toInt ≤ a.toInt := by rw [i_lt] at h; omega
/-- a loop that counts up to n, with fuel f -/
def lpI (n : Nat) (x : Int32) (f : Nat) : Prop := 0 ≤ x.toInt ∧ x.toInt ≤ n ∧ (n : Int) + 1 ≤ x.toInt + f
theorem lp_0 {n : Nat} {x : Int32} (h : lpI n x 0) : False := by
  obtain ⟨h1, h2, h3⟩ := h
  omega
theorem i_add1 {x : Int32} (h0 : -1000 ≤ x.toInt) (h1 : x.toInt < 1000000) : (x + 1).toInt = x.toInt + 1 := by
  rw [Int32.toInt_add, show (1 : Int32).toInt = 1 from rfl]
  rw [Int.bmod_eq_of_le] <;> omega
theorem lp_s {n : Nat} {x : Int32} {f : Nat} (h : lpI n x (f + 1)) (hx : x.toInt < n) (hn : n ≤ 1000 := by omega) : lpI n (x + 1) f := by
  obtain ⟨h1, h2, h3⟩ := h
  have e := i_add1 (x := x) (by omega) (by omega)
  refine ⟨?_, ?_, ?_⟩ <;> (try rw [e]) <;> omega
theorem lp_i {n : Nat} {x : Int32} {f : Nat} (h : lpI n x f) (hx : x.toInt < n) : vp_in x n := vp_to h.1 hx
theorem lp_z {n : Nat} (hn : n ≤ 127) : lpI n 0 128 := by
  refine ⟨?_, ?_, ?_⟩ <;> (rw [show (0 : Int32).toInt = 0 from rfl]) <;> omega
theorem lt_nle {x c : Int32} {n : Nat} (h : ¬ c ≤ x) (hc : c.toInt ≤ n) : x.toInt < n := by
  have := i_nle h
  omega
theorem lt_nlt {x c : Int32} {n : Nat} (h : ¬ c < x) (hc : c.toInt + 1 ≤ n) : x.toInt < n := by
  have := i_nlt h
  omega
/-! WF behind a write -/
theorem wf_ext {σ τ : St} (h : WF σ) (h3 : τ.1 0 3 = σ.1 0 3) (h4 : τ.1 0 4 = σ.1 0 4) (h5 : τ.1 0 5 = σ.1 0 5) (h9 : τ.1 0 9 = σ.1 0 9) (hg : ∀ i, i < 6 → τ.1 (34 + i) 0 = σ.1 (34 + i) 0 ∧ τ.1 (34 + i) 1 = σ.1 (34 + i) 1 ∧ τ.1 (34 + i) 3 = σ.1 (34 + i) 3 ∧ (τ.1 (34 + i) 8 = σ.1 (34 + i) 8 ∨ b01 (τ.1 (34 + i) 8))) (hk : ∀ i, i < 12 → τ.1 (22 + i) 4 = σ.1 (22 + i) 4) : WF τ := by
  obtain ⟨a, b, c, d, e, f⟩ := h
  refine ⟨by rw [h3]; exact a, by rw [h4]; exact b, by rw [h5]; exact c, by rw [h9]; exact d, fun i hi => ?_, fun i hi => by rw [hk i hi]; exact f i hi⟩
  obtain ⟨g0, g1, g3, g8⟩ := hg i hi
  obtain ⟨e0, e1, e3, e8⟩ := e i hi
  refine ⟨by rw [g0]; exact e0, by rw [g1]; exact e1, by rw [g3]; exact e3, ?_⟩
  rcases g8 with g8 | g8
  · rw [g8]; exact e8
  · exact g8
theorem up_o {σ : St} {c k d j : Nat} {v : Int32} (h : ¬ (d = c ∧ j = k)) : (up σ c k v).1 d j = σ.1 d j := if_neg h
theorem up_s {σ : St} {c k : Nat} {v : Int32} : (up σ c k v).1 c k = v := if_pos ⟨rfl, rfl⟩
theorem wf_up {σ : St} {c k : Nat} {v : Int32} (h : WF σ) (h0 : c = 0 → k ≠ 3 ∧ k ≠ 4 ∧ k ≠ 5 ∧ k ≠ 9) (hg : 34 ≤ c → k ≠ 0 ∧ k ≠ 1 ∧ k ≠ 3 ∧ (k = 8 → b01 v)) (hk : 22 ≤ c → c < 34 → k ≠ 4) : WF (up σ c k v) := by
  refine wf_ext h (up_o ?_) (up_o ?_) (up_o ?_) (up_o ?_) (fun i hi => ⟨up_o ?_, up_o ?_, up_o ?_, ?_⟩) (fun i hi => up_o ?_)
  · rintro ⟨rfl, rfl⟩; exact (h0 rfl).1 rfl
  · rintro ⟨rfl, rfl⟩; exact (h0 rfl).2.1 rfl
  · rintro ⟨rfl, rfl⟩; exact (h0 rfl).2.2.1 rfl
  · rintro ⟨rfl, rfl⟩; exact (h0 rfl).2.2.2 rfl
  · rintro ⟨rfl, rfl⟩; exact (hg (by omega)).1 rfl
  · rintro ⟨rfl, rfl⟩; exact (hg (by omega)).2.1 rfl
  · rintro ⟨rfl, rfl⟩; exact (hg (by omega)).2.2.1 rfl
  · by_cases q : 34 + i = c ∧ 8 = k
    · obtain ⟨rfl, rfl⟩ := q
      rw [up_s]
      exact Or.inr ((hg (by omega)).2.2.2 rfl)
    · exact Or.inl (up_o q)
  · rintro ⟨rfl, rfl⟩; exact hk (by omega) (by omega) rfl
theorem wf_L {σ : St} {v : Int64} (h : WF σ) : WF (upL σ v) := h
end
section
theorem wB_of {D : va_G} {ad : Nat → Nat} {ca : Nat → ClassId} {σ : St} {t : State} {H : Heap} (ht : t.heap = H) (hP : va_P D vwCl (wl ad ca σ) H) : wB D ad ca σ t := by
  unfold wB
  rw [ht]
  exact hP
theorem lp_d {x : Int32} {f : Nat} (h : 0 ≤ x.toInt ∧ x.toInt ≤ 30 ∧ x.toInt + 1 ≤ ((f + 1 : Nat) : Int)) (c : ¬ x < 1) : 0 ≤ (x + -1).toInt ∧ (x + -1).toInt ≤ 30 ∧ (x + -1).toInt + 1 ≤ (f : Int) := by
  obtain ⟨h1, h2, h3⟩ := h
  have q := i_nlt c
  rw [show (1 : Int32).toInt = 1 from rfl] at q
  have e : (x + -1).toInt = x.toInt - 1 := by
    rw [Int32.toInt_add, show (-1 : Int32).toInt = -1 from rfl]
    rw [Int.bmod_eq_of_le] <;> omega
  refine ⟨?_, ?_, ?_⟩ <;> (rw [e]) <;> omega
theorem ne_m1 {x c : Int32} (h : inr x c) : ¬ x = (-1 : Int32) := by
  rintro rfl
  have := h.1
  rw [show (-1 : Int32).toInt = -1 from rfl] at this
  omega
theorem wf_c3 {σ τ : St} (h : WF τ) (e : τ.1 0 3 = σ.1 0 3) (h0 : 0 ≤ (σ.1 0 3).toInt) (hc : (σ.1 0 3).toInt < 8) : WF (up τ 0 3 (τ.1 0 3 + 1)) := by
  have q := i_add1 (x := τ.1 0 3) (by rw [e]; omega) (by rw [e]; omega)
  obtain ⟨a, b, c, d, f, g⟩ := h
  exact ⟨by rw [up_s, q, e]; omega, b, c, d, fun i hi => by rw [up_o (by omega), up_o (by omega), up_o (by omega), up_o (by omega)]; exact f i hi, fun i hi => by rw [up_o (by omega)]; exact g i hi⟩
theorem wf_c4 {σ τ : St} (h : WF τ) (e : τ.1 0 4 = σ.1 0 4) (h0 : 0 ≤ (σ.1 0 4).toInt) (hc : (σ.1 0 4).toInt < 12) : WF (up τ 0 4 (τ.1 0 4 + 1)) := by
  have q := i_add1 (x := τ.1 0 4) (by rw [e]; omega) (by rw [e]; omega)
  obtain ⟨a, b, c, d, f, g⟩ := h
  exact ⟨a, by rw [up_s, q, e]; omega, c, d, fun i hi => by rw [up_o (by omega), up_o (by omega), up_o (by omega), up_o (by omega)]; exact f i hi, fun i hi => by rw [up_o (by omega)]; exact g i hi⟩
theorem wf_c5 {σ τ : St} (h : WF τ) (e : τ.1 0 5 = σ.1 0 5) (h0 : 0 ≤ (σ.1 0 5).toInt) (hc : (σ.1 0 5).toInt < 6) : WF (up τ 0 5 (τ.1 0 5 + 1)) := by
  have q := i_add1 (x := τ.1 0 5) (by rw [e]; omega) (by rw [e]; omega)
  obtain ⟨a, b, c, d, f, g⟩ := h
  exact ⟨a, b, by rw [up_s, q, e]; omega, d, fun i hi => by rw [up_o (by omega), up_o (by omega), up_o (by omega), up_o (by omega)]; exact f i hi, fun i hi => by rw [up_o (by omega)]; exact g i hi⟩
theorem wf_M9 {σ : St} {v : Int32} (h : WF σ) (hv : (0 : Int32).toInt ≤ v.toInt ∧ v.toInt ≤ (9 : Int32).toInt) : WF (up σ 0 9 v) := by
  obtain ⟨a, b, c, d, f, g⟩ := h
  exact ⟨a, b, c, by rw [up_s]; exact hv, fun i hi => by rw [up_o (by omega), up_o (by omega), up_o (by omega), up_o (by omega)]; exact f i hi, fun i hi => by rw [up_o (by omega)]; exact g i hi⟩
theorem wf_G {σ : St} {i k : Nat} {v : Int32} (h : WF σ) (h0 : k = 0 → vp_in v 4) (h1 : k = 1 → vp_in v 8) (h3 : k = 3 → vp_in v 31) (h8 : k = 8 → b01 v) : WF (up σ (34 + i) k v) := by
  obtain ⟨a, b, c, d, f, g⟩ := h
  refine ⟨by rw [up_o (by omega)]; exact a, by rw [up_o (by omega)]; exact b, by rw [up_o (by omega)]; exact c, by rw [up_o (by omega)]; exact d, fun j hj => ?_, fun j hj => by rw [up_o (by omega)]; exact g j hj⟩
  obtain ⟨f0, f1, f3, f8⟩ := f j hj
  have key : ∀ (q : Nat) (P : Int32 → Prop), P (σ.1 (34 + j) q) → (k = q → P v) → P ((up σ (34 + i) k v).1 (34 + j) q) := by
    intro q P h h2
    by_cases e : 34 + j = 34 + i ∧ q = k
    · obtain ⟨e1, rfl⟩ := e
      rw [e1, up_s]
      exact h2 rfl
    · rw [up_o e]
      exact h
  exact ⟨key 0 (fun x => vp_in x 4) f0 h0, key 1 (fun x => vp_in x 8) f1 h1, key 3 (fun x => vp_in x 31) f3 h3, key 8 b01 f8 h8⟩
theorem wf_G0 {σ : St} {i : Nat} {v : Int32} (h : WF σ) (hv : vp_in v 4) : WF (up σ (34 + i) 0 v) := wf_G h (fun _ => hv) (fun h => absurd h (by decide)) (fun h => absurd h (by decide)) (fun h => absurd h (by decide))
theorem wf_G1 {σ : St} {i : Nat} {v : Int32} (h : WF σ) (hv : vp_in v 8) : WF (up σ (34 + i) 1 v) := wf_G h (fun h => absurd h (by decide)) (fun _ => hv) (fun h => absurd h (by decide)) (fun h => absurd h (by decide))
theorem wf_G3 {σ : St} {i : Nat} {v : Int32} (h : WF σ) (hv : vp_in v 31) : WF (up σ (34 + i) 3 v) := wf_G h (fun h => absurd h (by decide)) (fun h => absurd h (by decide)) (fun _ => hv) (fun h => absurd h (by decide))
theorem wf_K4 {σ : St} {i : Nat} {v : Int32} (h : WF σ) (hv : v = -1 ∨ vp_in v 6) : WF (up σ (22 + i) 4 v) := by
  by_cases hi : i < 12
  · obtain ⟨a, b, c, d, f, g⟩ := h
    refine ⟨by rw [up_o (by omega)]; exact a, by rw [up_o (by omega)]; exact b, by rw [up_o (by omega)]; exact c, by rw [up_o (by omega)]; exact d, fun j hj => by rw [up_o (by omega), up_o (by omega), up_o (by omega), up_o (by omega)]; exact f j hj, fun j hj => ?_⟩
    by_cases e : 22 + j = 22 + i ∧ 4 = 4
    · rw [e.1, up_s]
      exact hv
    · rw [up_o e]
      exact g j hj
  · obtain ⟨a, b, c, d, f, g⟩ := h
    refine ⟨by rw [up_o (by omega)]; exact a, by rw [up_o (by omega)]; exact b, by rw [up_o (by omega)]; exact c, by rw [up_o (by omega)]; exact d, fun j hj => by rw [up_o (by omega), up_o (by omega), up_o (by omega), up_o (by omega)]; exact f j hj, fun j hj => by rw [up_o (by omega)]; exact g j hj⟩
end
section
/-! ===== the methods of the ledger as functions of its state, laid by wip/p30/gen.py out of the bytecode ===== -/
def f_bitCount (x0 : Int32) : Int32 :=
  ((fun z1 : Int32 => ((fun z2 : Int32 => ((fun z3 : Int32 => ((fun z4 : Int32 => ((fun z5 : Int32 => (z5 &&& (63 : Int32))) (z4 + (z4.toUInt32 >>> (Int32.toUInt32 (16 : Int32) &&& Int32.toUInt32 31)).toInt32))) (z3 + (z3.toUInt32 >>> (Int32.toUInt32 (8 : Int32) &&& Int32.toUInt32 31)).toInt32))) ((z2 + (z2.toUInt32 >>> (Int32.toUInt32 (4 : Int32) &&& Int32.toUInt32 31)).toInt32) &&& (252645135 : Int32)))) ((z1 &&& (858993459 : Int32)) + ((z1.toUInt32 >>> (Int32.toUInt32 (2 : Int32) &&& Int32.toUInt32 31)).toInt32 &&& (858993459 : Int32))))) (x0 - ((x0.toUInt32 >>> (Int32.toUInt32 (1 : Int32) &&& Int32.toUInt32 31)).toInt32 &&& (1431655765 : Int32))))
def f_mixed (x0 : Int64) (x2 : Int32) : Int64 :=
  ((x0 * (31 : Int64)) + x2.toInt64)
def f_oneIf (x0 : Int32) : Int32 :=
  (if x0 = (0 : Int32) then (0 : Int32) else (1 : Int32))
def f_isInSet (x0 : Int32) (x1 : Int32) : Int32 :=
  (if (x0 &&& ((1 : Int32) <<< (x1 &&& (31 : Int32)))) = (0 : Int32) then (0 : Int32) else (1 : Int32))
def f_distance (x0 : Int32) (x1 : Int32) : Int32 :=
  (if (0 : Int32) ≤ (x0 - x1) then (x0 - x1) else (0 : Int32) - (x0 - x1))
def f_energyAt (σ : St) (x1 : Int32) (x2 : Int32) : Int32 :=
  (if x1 = (0 : Int32) then ((10 : Int32) * x2) else (if x1 = (1 : Int32) then ((x2 * x2) / (2 : Int32)) else (if x1 = (2 : Int32) then (((6 : Int32) * x2) + ((σ.1 0 9) * x2)) else ((5 : Int32) * x2))))
def f_energyOf (σ : St) (x1 : Int32) : Int32 :=
  (f_energyAt σ (σ.1 (34 + x1.toNatClampNeg) 0) (σ.1 (34 + x1.toNatClampNeg) 3))
def f_ringOf (σ : St) (x1 : Int32) : Int32 :=
  ((f_energyAt σ (σ.1 (34 + x1.toNatClampNeg) 0) (σ.1 (34 + x1.toNatClampNeg) 3)) / (15 : Int32))
def f_isFit (σ : St) (x1 : Int32) : Int32 :=
  (if (σ.1 (22 + x1.toNatClampNeg) 2) ≤ (0 : Int32) then (0 : Int32) else (if (σ.1 (22 + x1.toNatClampNeg) 3) = (-1 : Int32) then (0 : Int32) else (if (2 : Int32) < ((σ.1 0 8) - (σ.1 (22 + x1.toNatClampNeg) 3)) then (0 : Int32) else (1 : Int32))))
def f_guards (σ : St) (x1 : Int32) (x2 : Int32) : Int32 :=
  (if (σ.1 (22 + x1.toNatClampNeg) 4) = x2 then (if (σ.1 (22 + x1.toNatClampNeg) 0) = (σ.1 (34 + x2.toNatClampNeg) 0) then (if (f_isFit σ x1) = (0 : Int32) then (0 : Int32) else (1 : Int32)) else (0 : Int32)) else (0 : Int32))
def f_guardOf_L4 (σ : St) (x1 : Int32) : Nat → Int32 → Int32 → Int32
  | 0, y3_4, y2_4 => 0
  | n_4 + 1, y3_4, y2_4 => (if (σ.1 0 4) ≤ y3_4 then y2_4 else (if (f_guards σ y3_4 x1) = (0 : Int32) then (f_guardOf_L4 σ x1 n_4 (y3_4 + (1 : Int32)) y2_4) else (f_guardOf_L4 σ x1 n_4 (y3_4 + (1 : Int32)) (y2_4 + (σ.1 (22 + y3_4.toNatClampNeg) 1)))))
def f_guardOf (σ : St) (x1 : Int32) : Int32 :=
  (f_guardOf_L4 σ x1 128 (0 : Int32) (0 : Int32))
def f_performersShare (σ : St) (x1 : Int32) (x2 : Int32) : Int32 :=
  (((((5 : Int32) * (σ.1 (6 + x1.toNatClampNeg + 8) x2.toNatClampNeg)) + (20 : Int32)) - ((σ.1 (6 + x1.toNatClampNeg) 6) / (2 : Int32))) - ((5 : Int32) * (σ.1 4 x2.toNatClampNeg)))
def f_marginOf (σ : St) (x1 : Int32) : Int32 :=
  (((f_guardOf σ x1) + (f_performersShare σ (σ.1 (34 + x1.toNatClampNeg) 1) (σ.1 (34 + x1.toNatClampNeg) 0))) - (f_energyOf σ x1))
def f_marginWithoutEnergy (σ : St) (x1 : Int32) : Int32 :=
  ((f_marginOf σ x1) + (f_energyOf σ x1))
def f_standsInRing (σ : St) (x1 : Int32) (x2 : Int32) : Int32 :=
  (if x1 = (σ.1 (34 + x2.toNatClampNeg) 1) then (0 : Int32) else (if (f_ringOf σ x2) < (f_distance (σ.1 (6 + x1.toNatClampNeg) 5) (σ.1 (34 + x2.toNatClampNeg) 2)) then (0 : Int32) else (1 : Int32)))
def f_isOccupied_L2 (σ : St) (x1 : Int32) : Nat → Int32 → Int32
  | 0, y2_2 => 0
  | n_2 + 1, y2_2 => (if (σ.1 0 3) ≤ y2_2 then (0 : Int32) else (if (f_standsInRing σ y2_2 x1) = (0 : Int32) then (f_isOccupied_L2 σ x1 n_2 (y2_2 + (1 : Int32))) else (1 : Int32)))
def f_isOccupied (σ : St) (x1 : Int32) : Int32 :=
  (f_isOccupied_L2 σ x1 128 (0 : Int32))
def f_ringsAround_L4 (σ : St) (x1 : Int32) : Nat → Int32 → Int32 → Int32
  | 0, y3_4, y2_4 => 0
  | n_4 + 1, y3_4, y2_4 => (if (σ.1 0 5) ≤ y3_4 then y2_4 else (if (f_standsInRing σ x1 y3_4) = (0 : Int32) then (f_ringsAround_L4 σ x1 n_4 (y3_4 + (1 : Int32)) y2_4) else (f_ringsAround_L4 σ x1 n_4 (y3_4 + (1 : Int32)) (y2_4 ||| ((1 : Int32) <<< (y3_4 &&& (31 : Int32)))))))
def f_ringsAround (σ : St) (x1 : Int32) : Int32 :=
  (f_ringsAround_L4 σ x1 128 (0 : Int32) (0 : Int32))
def f_isClearPlace_L14 (σ : St) (x1 : Int32) : Nat → Int32 → Int32
  | 0, y2_14 => 0
  | n_14 + 1, y2_14 => (if (σ.1 0 5) ≤ y2_14 then (1 : Int32) else (if (σ.1 (34 + y2_14.toNatClampNeg) 8) = (0 : Int32) then (f_isClearPlace_L14 σ x1 n_14 (y2_14 + (1 : Int32))) else (if (f_ringOf σ y2_14) < (f_distance x1 (σ.1 (34 + y2_14.toNatClampNeg) 2)) then (f_isClearPlace_L14 σ x1 n_14 (y2_14 + (1 : Int32))) else (0 : Int32))))
def f_isClearPlace (σ : St) (x1 : Int32) : Int32 :=
  (if x1 < (0 : Int32) then (0 : Int32) else (if x1 ≤ (99 : Int32) then (f_isClearPlace_L14 σ x1 128 (0 : Int32)) else (0 : Int32)))
def f_isReadyMedic (σ : St) (x1 : Int32) (x2 : Int32) : Int32 :=
  (if (σ.1 (6 + x1.toNatClampNeg) 2) = (0 : Int32) then (0 : Int32) else (if (σ.1 (6 + x1.toNatClampNeg) 3) = (0 : Int32) then (if (25 : Int32) < (f_distance (σ.1 (6 + x1.toNatClampNeg) 5) (σ.1 (34 + x2.toNatClampNeg) 2)) then (0 : Int32) else (1 : Int32)) else (0 : Int32)))
def f_isTooYoung (σ : St) (x1 : Int32) (x2 : Int32) : Int32 :=
  (if (σ.1 (6 + x1.toNatClampNeg) 1) = (0 : Int32) then (0 : Int32) else (if (σ.1 (34 + x2.toNatClampNeg) 0) = (1 : Int32) then (1 : Int32) else (if (f_energyOf σ x2) ≤ (60 : Int32) then (0 : Int32) else (1 : Int32))))
def f_windBars (σ : St) (x1 : Int32) : Int32 :=
  (if (σ.1 0 9) ≤ (wnd (σ.1 (34 + x1.toNatClampNeg) 0).toNatClampNeg) then (0 : Int32) else (1 : Int32))
def f_darkBars (σ : St) (x1 : Int32) : Int32 :=
  (if (σ.1 0 10) = (0 : Int32) then (if (σ.1 (34 + x1.toNatClampNeg) 0) = (1 : Int32) then (0 : Int32) else (1 : Int32)) else (0 : Int32))
def f_hasMedicAtHand_L8 (σ : St) (x1 : Int32) : Nat → Int32 → Int32
  | 0, y3_8 => 0
  | n_8 + 1, y3_8 => (if (σ.1 0 3) ≤ y3_8 then (0 : Int32) else (if y3_8 = (σ.1 (34 + x1.toNatClampNeg) 1) then (f_hasMedicAtHand_L8 σ x1 n_8 (y3_8 + (1 : Int32))) else (if (f_isReadyMedic σ y3_8 x1) = (0 : Int32) then (f_hasMedicAtHand_L8 σ x1 n_8 (y3_8 + (1 : Int32))) else (if (f_distance (σ.1 (6 + y3_8.toNatClampNeg) 5) (σ.1 (34 + x1.toNatClampNeg) 2)) ≤ (f_ringOf σ x1) then (f_hasMedicAtHand_L8 σ x1 n_8 (y3_8 + (1 : Int32))) else (1 : Int32)))))
def f_hasMedicAtHand (σ : St) (x1 : Int32) : Int32 :=
  (f_hasMedicAtHand_L8 σ x1 128 (0 : Int32))
def f_isNearArmed_L2 (σ : St) (x1 : Int32) : Nat → Int32 → Int32
  | 0, y2_2 => 0
  | n_2 + 1, y2_2 => (if (σ.1 0 5) ≤ y2_2 then (0 : Int32) else (if y2_2 = x1 then (f_isNearArmed_L2 σ x1 n_2 (y2_2 + (1 : Int32))) else (if (σ.1 (34 + y2_2.toNatClampNeg) 8) = (0 : Int32) then (f_isNearArmed_L2 σ x1 n_2 (y2_2 + (1 : Int32))) else (if ((f_ringOf σ y2_2) + (f_ringOf σ x1)) < (f_distance (σ.1 (34 + y2_2.toNatClampNeg) 2) (σ.1 (34 + x1.toNatClampNeg) 2)) then (f_isNearArmed_L2 σ x1 n_2 (y2_2 + (1 : Int32))) else (1 : Int32)))))
def f_isNearArmed (σ : St) (x1 : Int32) : Int32 :=
  (f_isNearArmed_L2 σ x1 128 (0 : Int32))
def f_whatBars (σ : St) (x1 : Int32) : Int32 :=
  (if (σ.1 (6 + (σ.1 (34 + x1.toNatClampNeg) 1).toNatClampNeg) 3) = (0 : Int32) then (if (σ.1 (34 + x1.toNatClampNeg) 6) = (0 : Int32) then (if (4 : Int32) ≤ (σ.1 (34 + x1.toNatClampNeg) 4) then (if (3 : Int32) ≤ (f_bitCount (σ.1 (34 + x1.toNatClampNeg) 5)) then (if (0 : Int32) ≤ (f_marginOf σ x1) then (if (f_isTooYoung σ (σ.1 (34 + x1.toNatClampNeg) 1) x1) = (0 : Int32) then (if (f_windBars σ x1) = (0 : Int32) then (if (f_darkBars σ x1) = (0 : Int32) then (if (f_hasMedicAtHand σ x1) = (0 : Int32) then (9 : Int32) else (if (f_isOccupied σ x1) = (0 : Int32) then (if (f_isNearArmed σ x1) = (0 : Int32) then (0 : Int32) else (11 : Int32)) else (10 : Int32))) else (8 : Int32)) else (7 : Int32)) else (6 : Int32)) else (5 : Int32)) else (4 : Int32)) else (3 : Int32)) else (2 : Int32)) else (1 : Int32))
def f_standDown (σ : St) (x1 : Int32) : St :=
  (if (σ.1 (34 + x1.toNatClampNeg) 8) = (0 : Int32) then σ else ((fun σ1 : St => ((fun σ2 : St => σ2) (up σ1 0 13 ((σ1.1 0 13) + (1 : Int32))))) (up σ (34 + x1.toNatClampNeg) 8 (0 : Int32))))
def f_standDownOccupied_L2 : Nat → St → Int32 → St
  | 0, σ_2, y1_2 => σ_2
  | n_2 + 1, σ_2, y1_2 => (if (σ_2.1 0 5) ≤ y1_2 then σ_2 else (if (f_isOccupied σ_2 y1_2) = (0 : Int32) then (f_standDownOccupied_L2 n_2 σ_2 (y1_2 + (1 : Int32))) else ((fun σ1 : St => (f_standDownOccupied_L2 n_2 σ1 (y1_2 + (1 : Int32)))) (f_standDown σ_2 y1_2))))
def f_standDownOccupied (σ : St) : St :=
  (f_standDownOccupied_L2 128 σ (0 : Int32))
def f_loseSignatures (σ : St) (x1 : Int32) : St :=
  ((fun σ1 : St => ((fun σ2 : St => σ2) (f_standDown σ1 x1))) (up σ (34 + x1.toNatClampNeg) 5 (0 : Int32)))
def f_becomeChanged (σ : St) (x1 : Int32) : St :=
  ((fun σ1 : St => ((fun σ2 : St => σ2) (up σ1 (34 + x1.toNatClampNeg) 4 (if (σ1.1 (34 + x1.toNatClampNeg) 4) < (2 : Int32) then (σ1.1 (34 + x1.toNatClampNeg) 4) else (2 : Int32))))) (f_loseSignatures σ x1))
def f_addMiss_L34 (x1 : Int32) : Nat → St → Int32 → St
  | 0, σ_34, y2_34 => σ_34
  | n_34 + 1, σ_34, y2_34 => (if (σ_34.1 0 5) ≤ y2_34 then σ_34 else (if (σ_34.1 (34 + y2_34.toNatClampNeg) 0) = x1 then ((fun σ3 : St => (f_addMiss_L34 x1 n_34 σ3 (y2_34 + (1 : Int32)))) (f_loseSignatures σ_34 y2_34)) else (f_addMiss_L34 x1 n_34 σ_34 (y2_34 + (1 : Int32)))))
def f_addMiss (σ : St) (x1 : Int32) : St :=
  ((fun σ1 : St => (if ((σ1.1 5 x1.toNatClampNeg) - (σ1.1 5 x1.toNatClampNeg) / (3 : Int32) * (3 : Int32)) = (0 : Int32) then ((fun σ2 : St => (f_addMiss_L34 x1 128 σ2 (0 : Int32))) (up σ1 4 x1.toNatClampNeg ((σ1.1 4 x1.toNatClampNeg) + (1 : Int32)))) else σ1)) (up σ 5 x1.toNatClampNeg ((σ.1 5 x1.toNatClampNeg) + (1 : Int32))))
def f_tire (σ : St) (x0 : Nat) (x1 : Int32) : St :=
  ((fun σ1 : St => σ1) (up σ (6 + x0) 6 (if ((σ.1 (6 + x0) 6) + x1) < (100 : Int32) then ((σ.1 (6 + x0) 6) + x1) else (100 : Int32))))
def f_hurt_L35 (x1 : Int32) : Nat → St → Int32 → St
  | 0, σ_35, y2_35 => σ_35
  | n_35 + 1, σ_35, y2_35 => (if (σ_35.1 0 5) ≤ y2_35 then σ_35 else (if (σ_35.1 (34 + y2_35.toNatClampNeg) 1) = x1 then ((fun σ4 : St => (f_hurt_L35 x1 n_35 σ4 (y2_35 + (1 : Int32)))) (f_standDown σ_35 y2_35)) else (f_hurt_L35 x1 n_35 σ_35 (y2_35 + (1 : Int32)))))
def f_hurt (σ : St) (x1 : Int32) : St :=
  ((fun σ1 : St => ((fun σ2 : St => ((fun σ3 : St => (f_hurt_L35 x1 128 σ3 (0 : Int32))) (up σ2 0 11 ((σ2.1 0 11) + (1 : Int32))))) (up σ1 (6 + x1.toNatClampNeg) 4 (σ1.1 0 8)))) (up σ (6 + x1.toNatClampNeg) 3 (1 : Int32)))
def f_useKitOf_L2 (x1 : Int32) : Nat → St → Int32 → St
  | 0, σ_2, y2_2 => σ_2
  | n_2 + 1, σ_2, y2_2 => (if (σ_2.1 0 4) ≤ y2_2 then σ_2 else (if (f_guards σ_2 y2_2 x1) = (0 : Int32) then (f_useKitOf_L2 x1 n_2 σ_2 (y2_2 + (1 : Int32))) else ((fun σ1 : St => (f_useKitOf_L2 x1 n_2 σ1 (y2_2 + (1 : Int32)))) (up σ_2 (22 + y2_2.toNatClampNeg) 2 ((σ_2.1 (22 + y2_2.toNatClampNeg) 2) - (1 : Int32))))))
def f_useKitOf (σ : St) (x1 : Int32) : St :=
  (f_useKitOf_L2 x1 128 σ (0 : Int32))
def f_payFor_L55 (x1 : Int32) : Nat → St → Int32 → St
  | 0, σ_55, y4_55 => σ_55
  | n_55 + 1, σ_55, y4_55 => (if (σ_55.1 0 3) ≤ y4_55 then σ_55 else (if (f_isReadyMedic σ_55 y4_55 x1) = (0 : Int32) then (f_payFor_L55 x1 n_55 σ_55 (y4_55 + (1 : Int32))) else ((fun σ4 : St => (f_payFor_L55 x1 n_55 σ4 (y4_55 + (1 : Int32)))) (up σ_55 (6 + y4_55.toNatClampNeg) 7 ((σ_55.1 (6 + y4_55.toNatClampNeg) 7) + (20 : Int32))))))
def f_payFor (σ : St) (x1 : Int32) : St :=
  ((fun σ1 : St => ((fun σ2 : St => ((fun σ3 : St => (f_payFor_L55 x1 128 σ3 (0 : Int32))) (up σ2 (6 + (σ.1 (34 + x1.toNatClampNeg) 1).toNatClampNeg) 8 ((σ2.1 (6 + (σ.1 (34 + x1.toNatClampNeg) 1).toNatClampNeg) 8) + (1 : Int32))))) (up σ1 (6 + (σ.1 (34 + x1.toNatClampNeg) 1).toNatClampNeg) 7 ((σ1.1 (6 + (σ.1 (34 + x1.toNatClampNeg) 1).toNatClampNeg) 7) + ((50 : Int32) + (f_energyOf σ x1)))))) (f_tire σ ((σ.1 (34 + x1.toNatClampNeg) 1).toNatClampNeg) ((f_energyOf σ x1) / (10 : Int32))))
def f_passOneDay_L75 : Nat → St → Int32 → St
  | 0, σ_75, y1_75 => σ_75
  | n_75 + 1, σ_75, y1_75 => (if (4 : Int32) ≤ y1_75 then σ_75 else ((fun σ2 : St => (f_passOneDay_L75 n_75 σ2 (y1_75 + (1 : Int32)))) (up σ_75 4 y1_75.toNatClampNeg (if (0 : Int32) < ((σ_75.1 4 y1_75.toNatClampNeg) - (1 : Int32)) then ((σ_75.1 4 y1_75.toNatClampNeg) - (1 : Int32)) else (0 : Int32)))))
def f_passOneDay_L12 : Nat → St → Int32 → St
  | 0, σ_12, y1_12 => σ_12
  | n_12 + 1, σ_12, y1_12 => (if (σ_12.1 0 3) ≤ y1_12 then (f_passOneDay_L75 128 σ_12 (0 : Int32)) else ((fun σ3 : St => (if (σ3.1 (6 + y1_12.toNatClampNeg) 3) = (0 : Int32) then (f_passOneDay_L12 n_12 σ3 (y1_12 + (1 : Int32))) else (if ((σ3.1 0 8) - (σ3.1 (6 + y1_12.toNatClampNeg) 4)) < (5 : Int32) then (f_passOneDay_L12 n_12 σ3 (y1_12 + (1 : Int32))) else ((fun σ4 : St => (f_passOneDay_L12 n_12 σ4 (y1_12 + (1 : Int32)))) (up σ3 (6 + y1_12.toNatClampNeg) 3 (0 : Int32)))))) (up σ_12 (6 + y1_12.toNatClampNeg) 6 (if (0 : Int32) < ((σ_12.1 (6 + y1_12.toNatClampNeg) 6) - (30 : Int32)) then ((σ_12.1 (6 + y1_12.toNatClampNeg) 6) - (30 : Int32)) else (0 : Int32)))))
def f_passOneDay (σ : St) : St :=
  ((fun σ1 : St => (f_passOneDay_L12 128 σ1 (0 : Int32))) (up σ 0 8 ((σ.1 0 8) + (1 : Int32))))
def f_armedSet_L4 (σ : St) : Nat → Int32 → Int32 → Int32
  | 0, y2_4, y1_4 => 0
  | n_4 + 1, y2_4, y1_4 => (if (σ.1 0 5) ≤ y2_4 then y1_4 else (if (σ.1 (34 + y2_4.toNatClampNeg) 8) = (0 : Int32) then (f_armedSet_L4 σ n_4 (y2_4 + (1 : Int32)) y1_4) else (f_armedSet_L4 σ n_4 (y2_4 + (1 : Int32)) (y1_4 ||| ((1 : Int32) <<< (y2_4 &&& (31 : Int32)))))))
def f_armedSet (σ : St) : Int32 :=
  (f_armedSet_L4 σ 128 (0 : Int32) (0 : Int32))
def f_fitCount_L4 (σ : St) : Nat → Int32 → Int32 → Int32
  | 0, y2_4, y1_4 => 0
  | n_4 + 1, y2_4, y1_4 => (if (σ.1 0 4) ≤ y2_4 then y1_4 else (f_fitCount_L4 σ n_4 (y2_4 + (1 : Int32)) (y1_4 + (f_oneIf (f_isFit σ y2_4)))))
def f_fitCount (σ : St) : Int32 :=
  (f_fitCount_L4 σ 128 (0 : Int32) (0 : Int32))
def f_hurtCount_L4 (σ : St) : Nat → Int32 → Int32 → Int32
  | 0, y2_4, y1_4 => 0
  | n_4 + 1, y2_4, y1_4 => (if (σ.1 0 3) ≤ y2_4 then y1_4 else (f_hurtCount_L4 σ n_4 (y2_4 + (1 : Int32)) (y1_4 + (f_oneIf (σ.1 (6 + y2_4.toNatClampNeg) 3)))))
def f_hurtCount (σ : St) : Int32 :=
  (f_hurtCount_L4 σ 128 (0 : Int32) (0 : Int32))
def f_payOfAll_L4 (σ : St) : Nat → Int32 → Int32 → Int32
  | 0, y2_4, y1_4 => 0
  | n_4 + 1, y2_4, y1_4 => (if (σ.1 0 3) ≤ y2_4 then y1_4 else (f_payOfAll_L4 σ n_4 (y2_4 + (1 : Int32)) (y1_4 + (σ.1 (6 + y2_4.toNatClampNeg) 7))))
def f_payOfAll (σ : St) : Int32 :=
  (f_payOfAll_L4 σ 128 (0 : Int32) (0 : Int32))
def f_missesOfAll_L4 (σ : St) : Nat → Int32 → Int32 → Int32
  | 0, y2_4, y1_4 => 0
  | n_4 + 1, y2_4, y1_4 => (if (4 : Int32) ≤ y2_4 then y1_4 else (f_missesOfAll_L4 σ n_4 (y2_4 + (1 : Int32)) (y1_4 + (σ.1 5 y2_4.toNatClampNeg))))
def f_missesOfAll (σ : St) : Int32 :=
  (f_missesOfAll_L4 σ 128 (0 : Int32) (0 : Int32))
def f_bestFreePiece_L5 (σ : St) (x1 : Int32) (x2 : Int32) : Nat → Int32 → Int32 → Int32
  | 0, y4_5, y3_5 => 0
  | n_5 + 1, y4_5, y3_5 => (if (σ.1 0 4) ≤ y4_5 then y3_5 else (if (σ.1 (22 + y4_5.toNatClampNeg) 0) = x1 then (if (σ.1 (22 + y4_5.toNatClampNeg) 4) = (-1 : Int32) then (if (f_isFit σ y4_5) = (0 : Int32) then (f_bestFreePiece_L5 σ x1 x2 n_5 (y4_5 + (1 : Int32)) y3_5) else (if (f_isInSet x2 y4_5) = (0 : Int32) then (if y3_5 = (-1 : Int32) then (f_bestFreePiece_L5 σ x1 x2 n_5 (y4_5 + (1 : Int32)) y4_5) else (if (σ.1 (22 + y4_5.toNatClampNeg) 1) ≤ (σ.1 (22 + y3_5.toNatClampNeg) 1) then (f_bestFreePiece_L5 σ x1 x2 n_5 (y4_5 + (1 : Int32)) y3_5) else (f_bestFreePiece_L5 σ x1 x2 n_5 (y4_5 + (1 : Int32)) y4_5))) else (f_bestFreePiece_L5 σ x1 x2 n_5 (y4_5 + (1 : Int32)) y3_5))) else (f_bestFreePiece_L5 σ x1 x2 n_5 (y4_5 + (1 : Int32)) y3_5)) else (f_bestFreePiece_L5 σ x1 x2 n_5 (y4_5 + (1 : Int32)) y3_5)))
def f_bestFreePiece (σ : St) (x1 : Int32) (x2 : Int32) : Int32 :=
  (f_bestFreePiece_L5 σ x1 x2 128 (0 : Int32) (-1 : Int32))
def f_person (σ : St) (x1 : Int32) (x2 : Int32) : Int32 × St :=
  ((fun σ1 : St => ((fun σ2 : St => ((fun σ3 : St => ((fun σ4 : St => ((σ.1 0 3), σ4)) (f_standDownOccupied σ3))) (up σ2 0 3 ((σ2.1 0 3) + (1 : Int32))))) (up σ1 (6 + (σ.1 0 3).toNatClampNeg) 2 x2))) (up σ (6 + (σ.1 0 3).toNatClampNeg) 1 x1))
def f_skill (σ : St) (x1 : Int32) (x2 : Int32) (x3 : Int32) : Int32 × St :=
  ((fun σ1 : St => ((σ.1 (6 + x1.toNatClampNeg + 8) x2.toNatClampNeg), σ1)) (up σ (6 + x1.toNatClampNeg + 8) x2.toNatClampNeg x3))
def f_walk_L30 (σ : St) (x1 : Int32) : Nat → St → Int32 → Int32 × St
  | 0, σ_30, y4_30 => (0, σ_30)
  | n_30 + 1, σ_30, y4_30 => (if (σ_30.1 0 5) ≤ y4_30 then (((f_armedSet σ) &&& ((f_armedSet σ_30) ^^^ (-1 : Int32))), σ_30) else (if (σ_30.1 (34 + y4_30.toNatClampNeg) 8) = (0 : Int32) then (f_walk_L30 σ x1 n_30 σ_30 (y4_30 + (1 : Int32))) else (if (f_standsInRing σ_30 x1 y4_30) = (0 : Int32) then (f_walk_L30 σ x1 n_30 σ_30 (y4_30 + (1 : Int32))) else ((fun σ2 : St => ((fun σ3 : St => (f_walk_L30 σ x1 n_30 σ3 (y4_30 + (1 : Int32)))) (f_addMiss σ2 (σ2.1 (34 + y4_30.toNatClampNeg) 0)))) (f_standDown σ_30 y4_30)))))
def f_walk (σ : St) (x1 : Int32) (x2 : Int32) : Int32 × St :=
  ((fun σ1 : St => (f_walk_L30 σ x1 128 σ1 (0 : Int32))) (up σ (6 + x1.toNatClampNeg) 5 x2))
def f_kit (σ : St) (x1 : Int32) (x2 : Int32) (x3 : Int32) : Int32 × St :=
  ((fun σ1 : St => ((fun σ2 : St => ((fun σ3 : St => ((fun σ4 : St => ((σ.1 0 4), σ4)) (up σ3 0 4 ((σ3.1 0 4) + (1 : Int32))))) (up σ2 (22 + (σ.1 0 4).toNatClampNeg) 2 x3))) (up σ1 (22 + (σ.1 0 4).toNatClampNeg) 1 x2))) (up σ (22 + (σ.1 0 4).toNatClampNeg) 0 x1))
def f_inspect (σ : St) (x1 : Int32) : Int32 × St :=
  ((fun σ1 : St => ((σ.1 (22 + x1.toNatClampNeg) 3), σ1)) (up σ (22 + x1.toNatClampNeg) 3 (σ.1 0 8)))
def f_put (σ : St) (x1 : Int32) (x2 : Int32) : Int32 × St :=
  ((fun σ1 : St => (if (σ.1 (22 + x1.toNatClampNeg) 4) = (-1 : Int32) then ((fun σ2 : St => ((σ.1 (22 + x1.toNatClampNeg) 4), σ2)) (f_becomeChanged σ1 x2)) else ((fun σ3 : St => ((fun σ4 : St => ((σ.1 (22 + x1.toNatClampNeg) 4), σ4)) (f_becomeChanged σ3 x2))) (f_becomeChanged σ1 (σ.1 (22 + x1.toNatClampNeg) 4))))) (up σ (22 + x1.toNatClampNeg) 4 x2))
def f_gag (σ : St) (x1 : Int32) (x2 : Int32) (x3 : Int32) (x4 : Int32) : Int32 × St :=
  ((fun σ1 : St => ((fun σ2 : St => ((fun σ3 : St => ((fun σ4 : St => ((fun σ5 : St => ((σ.1 0 5), σ5)) (up σ4 0 5 ((σ4.1 0 5) + (1 : Int32))))) (up σ3 (34 + (σ.1 0 5).toNatClampNeg) 3 x4))) (up σ2 (34 + (σ.1 0 5).toNatClampNeg) 2 x3))) (up σ1 (34 + (σ.1 0 5).toNatClampNeg) 1 x2))) (up σ (34 + (σ.1 0 5).toNatClampNeg) 0 x1))
def f_change (σ : St) (x1 : Int32) (x2 : Int32) (x3 : Int32) (x4 : Int32) : Int32 × St :=
  ((fun σ1 : St => ((fun σ2 : St => ((fun σ3 : St => ((fun σ4 : St => ((f_bitCount (σ.1 (34 + x1.toNatClampNeg) 5)), σ4)) (f_becomeChanged σ3 x1))) (up σ2 (34 + x1.toNatClampNeg) 3 x4))) (up σ1 (34 + x1.toNatClampNeg) 2 x3))) (up σ (34 + x1.toNatClampNeg) 1 x2))
def f_rehearse (σ : St) (x1 : Int32) : Int32 × St :=
  (if (f_marginWithoutEnergy σ x1) < (((if ((σ.1 (34 + x1.toNatClampNeg) 4) + (1 : Int32)) < (4 : Int32) then ((σ.1 (34 + x1.toNatClampNeg) 4) + (1 : Int32)) else (4 : Int32)) * (f_energyOf σ x1)) / (4 : Int32)) then ((fun σ1 : St => ((fun σ2 : St => ((fun σ3 : St => ((fun σ4 : St => ((σ4.1 (34 + x1.toNatClampNeg) 4), σ4)) (f_tire σ3 ((σ.1 (34 + x1.toNatClampNeg) 1).toNatClampNeg) (3 : Int32)))) (f_addMiss σ2 (σ2.1 (34 + x1.toNatClampNeg) 0)))) (f_loseSignatures σ1 x1))) (up σ (34 + x1.toNatClampNeg) 4 (0 : Int32))) else ((fun σ5 : St => ((fun σ6 : St => ((σ6.1 (34 + x1.toNatClampNeg) 4), σ6)) (f_tire σ5 ((σ.1 (34 + x1.toNatClampNeg) 1).toNatClampNeg) (3 : Int32)))) (up σ (34 + x1.toNatClampNeg) 4 (if ((σ.1 (34 + x1.toNatClampNeg) 4) + (1 : Int32)) < (4 : Int32) then ((σ.1 (34 + x1.toNatClampNeg) 4) + (1 : Int32)) else (4 : Int32)))))
def f_sign (σ : St) (x1 : Int32) (x2 : Int32) : Int32 × St :=
  ((fun σ1 : St => ((f_bitCount (σ1.1 (34 + x1.toNatClampNeg) 5)), σ1)) (up σ (34 + x1.toNatClampNeg) 5 ((σ.1 (34 + x1.toNatClampNeg) 5) ||| ((1 : Int32) <<< (x2 &&& (31 : Int32))))))
def f_no (σ : St) (x1 : Int32) (x2 : Int32) (x3 : Int32) : Int32 × St :=
  (if x3 = (0 : Int32) then ((fun σ3 : St => ((0 : Int32), σ3)) (up σ (34 + x2.toNatClampNeg) 6 ((σ.1 (34 + x2.toNatClampNeg) 6) &&& (((1 : Int32) <<< (x1 &&& (31 : Int32))) ^^^ (-1 : Int32))))) else ((fun σ1 : St => ((fun σ2 : St => ((σ1.1 (34 + x2.toNatClampNeg) 8), σ2)) (f_standDown σ1 x2))) (up σ (34 + x2.toNatClampNeg) 6 ((σ.1 (34 + x2.toNatClampNeg) 6) ||| ((1 : Int32) <<< (x1 &&& (31 : Int32)))))))
def f_arm (σ : St) (x1 : Int32) : Int32 × St :=
  (if (f_whatBars σ x1) = (0 : Int32) then ((fun σ2 : St => ((f_whatBars σ x1), σ2)) (up σ (34 + x1.toNatClampNeg) 8 (1 : Int32))) else ((fun σ1 : St => ((f_whatBars σ x1), σ1)) (up σ (34 + x1.toNatClampNeg) 8 (0 : Int32))))
def f_take (σ : St) (x1 : Int32) : Int32 × St :=
  ((fun σ1 : St => ((fun σ2 : St => ((fun σ3 : St => ((fun σ4 : St => ((fun σ5 : St => ((fun σ6 : St => (if (0 : Int32) ≤ (f_marginOf σ x1) then ((fun σ7 : St => ((fun σ8 : St => ((f_marginOf σ x1), σ8)) (f_payFor σ7 x1))) (f_useKitOf σ6 x1)) else ((fun σ9 : St => ((fun σ10 : St => ((fun σ11 : St => ((f_marginOf σ x1), σ11)) (f_payFor σ10 x1))) (f_useKitOf σ9 x1))) (f_hurt σ6 (σ6.1 (34 + x1.toNatClampNeg) 1))))) (upL σ5 (σ5.2 + (f_marginOf σ x1).toInt64)))) (up σ4 0 12 ((σ4.1 0 12) + (1 : Int32))))) (up σ3 (34 + x1.toNatClampNeg) 7 ((σ3.1 (34 + x1.toNatClampNeg) 7) + (1 : Int32))))) (up σ2 (34 + x1.toNatClampNeg) 4 (3 : Int32)))) (up σ1 (34 + x1.toNatClampNeg) 5 (0 : Int32)))) (up σ (34 + x1.toNatClampNeg) 8 (0 : Int32)))
def f_weather_L25 (σ : St) : Nat → St → Int32 → Int32 × St
  | 0, σ_25, y4_25 => (0, σ_25)
  | n_25 + 1, σ_25, y4_25 => (if (σ_25.1 0 5) ≤ y4_25 then ((fun σ3 : St => (((f_armedSet σ) &&& ((f_armedSet σ3) ^^^ (-1 : Int32))), σ3)) (f_standDownOccupied σ_25)) else (if (f_windBars σ_25 y4_25) = (0 : Int32) then (if (f_darkBars σ_25 y4_25) = (0 : Int32) then (f_weather_L25 σ n_25 σ_25 (y4_25 + (1 : Int32))) else ((fun σ5 : St => (f_weather_L25 σ n_25 σ5 (y4_25 + (1 : Int32)))) (f_standDown σ_25 y4_25))) else ((fun σ4 : St => (f_weather_L25 σ n_25 σ4 (y4_25 + (1 : Int32)))) (f_standDown σ_25 y4_25))))
def f_weather (σ : St) (x1 : Int32) (x2 : Int32) : Int32 × St :=
  ((fun σ1 : St => ((fun σ2 : St => (f_weather_L25 σ 128 σ2 (0 : Int32))) (up σ1 0 10 x2))) (up σ 0 9 x1))
def f_pass_L26 (x1 : Int32) : Nat → St → Int32 → Int32 × St
  | 0, σ_26, y2_26 => (0, σ_26)
  | n_26 + 1, σ_26, y2_26 => (if x1 ≤ y2_26 then ((σ_26.1 0 8), σ_26) else ((fun σ1 : St => (f_pass_L26 x1 n_26 σ1 (y2_26 + (1 : Int32)))) (f_passOneDay σ_26)))
def f_pass (σ : St) (x1 : Int32) : Int32 × St :=
  (f_pass_L26 x1 128 σ (0 : Int32))
def f_ofPerson (σ : St) (x1 : Int32) (x2 : Int32) : Int32 :=
  (if x2 = (4 : Int32) then (f_oneIf (σ.1 (6 + x1.toNatClampNeg) 1)) else (if x2 = (5 : Int32) then (f_oneIf (σ.1 (6 + x1.toNatClampNeg) 2)) else (if x2 = (6 : Int32) then (σ.1 (6 + x1.toNatClampNeg) 5) else (if x2 = (7 : Int32) then (σ.1 (6 + x1.toNatClampNeg) 6) else (if x2 = (8 : Int32) then (f_oneIf (σ.1 (6 + x1.toNatClampNeg) 3)) else (if x2 = (9 : Int32) then (σ.1 (6 + x1.toNatClampNeg) 7) else (if x2 = (10 : Int32) then (σ.1 (6 + x1.toNatClampNeg) 8) else (if x2 = (11 : Int32) then (f_ringsAround σ x1) else (σ.1 (6 + x1.toNatClampNeg + 8) x2.toNatClampNeg)))))))))
def f_ofKit (σ : St) (x1 : Int32) (x2 : Int32) : Int32 :=
  (if x2 = (0 : Int32) then (σ.1 (22 + x1.toNatClampNeg) 0) else (if x2 = (1 : Int32) then (σ.1 (22 + x1.toNatClampNeg) 1) else (if x2 = (2 : Int32) then (σ.1 (22 + x1.toNatClampNeg) 2) else (if x2 = (3 : Int32) then (σ.1 (22 + x1.toNatClampNeg) 3) else (if x2 = (4 : Int32) then (σ.1 (22 + x1.toNatClampNeg) 4) else (f_oneIf (f_isFit σ x1)))))))
def f_ofGag (σ : St) (x1 : Int32) (x2 : Int32) : Int32 :=
  (if x2 = (0 : Int32) then (σ.1 (34 + x1.toNatClampNeg) 0) else (if x2 = (1 : Int32) then (σ.1 (34 + x1.toNatClampNeg) 1) else (if x2 = (2 : Int32) then (σ.1 (34 + x1.toNatClampNeg) 2) else (if x2 = (3 : Int32) then (σ.1 (34 + x1.toNatClampNeg) 3) else (if x2 = (4 : Int32) then (f_energyOf σ x1) else (if x2 = (5 : Int32) then (f_ringOf σ x1) else (if x2 = (6 : Int32) then (f_guardOf σ x1) else (if x2 = (7 : Int32) then (f_marginOf σ x1) else (if x2 = (8 : Int32) then (σ.1 (34 + x1.toNatClampNeg) 4) else (if x2 = (9 : Int32) then (σ.1 (34 + x1.toNatClampNeg) 5) else (if x2 = (10 : Int32) then (σ.1 (34 + x1.toNatClampNeg) 6) else (if x2 = (11 : Int32) then (f_oneIf (σ.1 (34 + x1.toNatClampNeg) 8)) else (if x2 = (12 : Int32) then (f_whatBars σ x1) else (σ.1 (34 + x1.toNatClampNeg) 7))))))))))))))
def f_ofKind (σ : St) (x1 : Int32) (x2 : Int32) : Int32 :=
  (if x2 = (0 : Int32) then (σ.1 5 x1.toNatClampNeg) else (σ.1 4 x1.toNatClampNeg))
def f_many (σ : St) (x1 : Int32) : Int32 :=
  (if x1 = (0 : Int32) then (σ.1 0 8) else (if x1 = (1 : Int32) then (σ.1 0 9) else (if x1 = (2 : Int32) then (f_oneIf (σ.1 0 10)) else (if x1 = (3 : Int32) then (σ.1 0 3) else (if x1 = (4 : Int32) then (σ.1 0 4) else (if x1 = (5 : Int32) then (f_fitCount σ) else (if x1 = (6 : Int32) then (σ.1 0 5) else (if x1 = (7 : Int32) then (f_armedSet σ) else (if x1 = (8 : Int32) then (f_missesOfAll σ) else (if x1 = (9 : Int32) then (f_hurtCount σ) else (if x1 = (10 : Int32) then (σ.1 0 11) else (if x1 = (11 : Int32) then (σ.1 0 12) else (if x1 = (12 : Int32) then (f_payOfAll σ) else (σ.1 0 13))))))))))))))
def f_mostLevel_L14 (σ : St) (x1 : Int32) : Nat → Int32 → Int32
  | 0, y3_14 => 0
  | n_14 + 1, y3_14 => (if y3_14 < (1 : Int32) then (-1 : Int32) else (if (f_marginWithoutEnergy σ x1) < (f_energyAt σ (σ.1 (34 + x1.toNatClampNeg) 0) y3_14) then (f_mostLevel_L14 σ x1 n_14 (y3_14 + (-1 : Int32))) else y3_14))
def f_mostLevel (σ : St) (x1 : Int32) : Int32 :=
  (f_mostLevel_L14 σ x1 128 (30 : Int32))
def f_bestPerformer_L12 (σ : St) (x1 : Int32) : Nat → Int32 → Int32 → Int32 → Int32
  | 0, y4_12, y3_12, y2_12 => 0
  | n_12 + 1, y4_12, y3_12, y2_12 => (if (σ.1 0 3) ≤ y4_12 then y2_12 else (if (σ.1 (6 + y4_12.toNatClampNeg) 3) = (0 : Int32) then (if (f_isTooYoung σ y4_12 x1) = (0 : Int32) then (if y2_12 = (-1 : Int32) then (f_bestPerformer_L12 σ x1 n_12 (y4_12 + (1 : Int32)) (f_performersShare σ y4_12 (σ.1 (34 + x1.toNatClampNeg) 0)) y4_12) else (if (f_performersShare σ y4_12 (σ.1 (34 + x1.toNatClampNeg) 0)) ≤ y3_12 then (f_bestPerformer_L12 σ x1 n_12 (y4_12 + (1 : Int32)) y3_12 y2_12) else (f_bestPerformer_L12 σ x1 n_12 (y4_12 + (1 : Int32)) (f_performersShare σ y4_12 (σ.1 (34 + x1.toNatClampNeg) 0)) y4_12))) else (f_bestPerformer_L12 σ x1 n_12 (y4_12 + (1 : Int32)) y3_12 y2_12)) else (f_bestPerformer_L12 σ x1 n_12 (y4_12 + (1 : Int32)) y3_12 y2_12)))
def f_bestPerformer (σ : St) (x1 : Int32) : Int32 :=
  (f_bestPerformer_L12 σ x1 128 (0 : Int32) (0 : Int32) (-1 : Int32))
def f_needs_L16 (σ : St) (x1 : Int32) : Nat → Int32 → Int32 → Int32 → Int32
  | 0, y4_16, y3_16, y2_16 => 0
  | n_16 + 1, y4_16, y3_16, y2_16 => (if (σ.1 0 4) ≤ y4_16 then (if (0 : Int32) ≤ y2_16 then y3_16 else (0 : Int32)) else (if (0 : Int32) ≤ y2_16 then (if (0 : Int32) ≤ y2_16 then y3_16 else (0 : Int32)) else (if (f_bestFreePiece σ (σ.1 (34 + x1.toNatClampNeg) 0) y3_16) = (-1 : Int32) then (0 : Int32) else (f_needs_L16 σ x1 n_16 (y4_16 + (1 : Int32)) (y3_16 ||| ((1 : Int32) <<< ((f_bestFreePiece σ (σ.1 (34 + x1.toNatClampNeg) 0) y3_16) &&& (31 : Int32)))) (y2_16 + (σ.1 (22 + (f_bestFreePiece σ (σ.1 (34 + x1.toNatClampNeg) 0) y3_16).toNatClampNeg) 1))))))
def f_needs (σ : St) (x1 : Int32) : Int32 :=
  (f_needs_L16 σ x1 128 (0 : Int32) (0 : Int32) (f_marginOf σ x1))
def f_safeFrom_L23 (σ : St) (x1 : Int32) : Nat → Int32 → Int32
  | 0, y3_23 => 0
  | n_23 + 1, y3_23 => (if (99 : Int32) < y3_23 then (-1 : Int32) else (if (f_isClearPlace σ ((σ.1 (34 + x1.toNatClampNeg) 2) - y3_23)) = (0 : Int32) then (if (f_isClearPlace σ ((σ.1 (34 + x1.toNatClampNeg) 2) + y3_23)) = (0 : Int32) then (f_safeFrom_L23 σ x1 n_23 (y3_23 + (1 : Int32))) else y3_23) else y3_23))
def f_safeFrom (σ : St) (x1 : Int32) : Int32 :=
  (f_safeFrom_L23 σ x1 128 ((f_ringOf σ x1) + (1 : Int32)))
def f_digest_L197 (σ : St) : Nat → Int32 → Int64 → Int64
  | 0, y3_197, y1_197 => 0
  | n_197 + 1, y3_197, y1_197 => (if (4 : Int32) ≤ y3_197 then y1_197 else (f_digest_L197 σ n_197 (y3_197 + (1 : Int32)) (f_mixed (f_mixed y1_197 (f_ofKind σ y3_197 (1 : Int32))) (f_ofKind σ y3_197 (0 : Int32)))))
def f_digest_L128 (σ : St) (y3_117 : Int32) (k : Int64 → Int64) : Nat → Int32 → Int64 → Int64
  | 0, y4_128, y1_128 => 0
  | n_128 + 1, y4_128, y1_128 => (if (13 : Int32) < y4_128 then k y1_128 else (f_digest_L128 σ y3_117 k n_128 (y4_128 + (1 : Int32)) (f_mixed y1_128 (f_ofGag σ y3_117 y4_128))))
def f_digest_L117 (σ : St) : Nat → Int32 → Int64 → Int64
  | 0, y3_117, y1_117 => 0
  | n_117 + 1, y3_117, y1_117 => (if (σ.1 0 5) ≤ y3_117 then (f_digest_L197 σ 128 (0 : Int32) y1_117) else (f_digest_L128 σ y3_117 (fun y1_128 => (f_digest_L117 σ n_117 (y3_117 + (1 : Int32)) (f_mixed (f_mixed (f_mixed (f_mixed y1_128 (f_mostLevel σ y3_117)) (f_bestPerformer σ y3_117)) (f_needs σ y3_117)) (f_safeFrom σ y3_117)))) 128 (0 : Int32) y1_117))
def f_digest_L85 (σ : St) (y3_74 : Int32) (k : Int64 → Int64) : Nat → Int32 → Int64 → Int64
  | 0, y4_85, y1_85 => 0
  | n_85 + 1, y4_85, y1_85 => (if (5 : Int32) < y4_85 then k y1_85 else (f_digest_L85 σ y3_74 k n_85 (y4_85 + (1 : Int32)) (f_mixed y1_85 (f_ofKit σ y3_74 y4_85))))
def f_digest_L74 (σ : St) : Nat → Int32 → Int64 → Int64
  | 0, y3_74, y1_74 => 0
  | n_74 + 1, y3_74, y1_74 => (if (σ.1 0 4) ≤ y3_74 then (f_digest_L117 σ 128 (0 : Int32) y1_74) else (f_digest_L85 σ y3_74 (fun y1_85 => (f_digest_L74 σ n_74 (y3_74 + (1 : Int32)) y1_85)) 128 (0 : Int32) y1_74))
def f_digest_L41 (σ : St) (y3_30 : Int32) (k : Int64 → Int64) : Nat → Int32 → Int64 → Int64
  | 0, y4_41, y1_41 => 0
  | n_41 + 1, y4_41, y1_41 => (if (11 : Int32) < y4_41 then k y1_41 else (f_digest_L41 σ y3_30 k n_41 (y4_41 + (1 : Int32)) (f_mixed y1_41 (f_ofPerson σ y3_30 y4_41))))
def f_digest_L30 (σ : St) : Nat → Int32 → Int64 → Int64
  | 0, y3_30, y1_30 => 0
  | n_30 + 1, y3_30, y1_30 => (if (σ.1 0 3) ≤ y3_30 then (f_digest_L74 σ 128 (0 : Int32) y1_30) else (f_digest_L41 σ y3_30 (fun y1_41 => (f_digest_L30 σ n_30 (y3_30 + (1 : Int32)) y1_41)) 128 (0 : Int32) y1_30))
def f_digest_L6 (σ : St) : Nat → Int32 → Int64 → Int64
  | 0, y3_6, y1_6 => 0
  | n_6 + 1, y3_6, y1_6 => (if (13 : Int32) < y3_6 then (f_digest_L30 σ 128 (0 : Int32) y1_6) else (f_digest_L6 σ n_6 (y3_6 + (1 : Int32)) (f_mixed y1_6 (f_many σ y3_6))))
def f_digest (σ : St) : Int64 :=
  (f_digest_L6 σ 128 (0 : Int32) (58230 : Int64))
end
section
/-! ===== what the ledger's inner writes leave as it was ===== -/
def bd (x : Int32) (n : Nat) : Prop := 0 ≤ x.toInt ∧ x.toInt ≤ n
/-- the numbers that the relation speaks of -/
def Rel (a b : Nat) : Prop := (a = 0 ∧ (b = 3 ∨ b = 4 ∨ b = 5 ∨ b = 9)) ∨ (34 ≤ a ∧ a < 40 ∧ (b ≤ 6 ∨ b = 8)) ∨ (6 ≤ a ∧ a < 14 ∧ (b = 3 ∨ b = 5 ∨ b = 6)) ∨ (22 ≤ a ∧ a < 34 ∧ (b = 2 ∨ b = 4))
/-- τ comes of σ by gags standing down, by being hurt with all that it brings, by getting tired, by uses -/
def Q (σ τ : St) : Prop :=
  (τ.1 0 3 = σ.1 0 3 ∧ τ.1 0 4 = σ.1 0 4 ∧ τ.1 0 5 = σ.1 0 5 ∧ τ.1 0 9 = σ.1 0 9) ∧
  (∀ g, g < 6 → τ.1 (34 + g) 0 = σ.1 (34 + g) 0 ∧ τ.1 (34 + g) 1 = σ.1 (34 + g) 1 ∧ τ.1 (34 + g) 2 = σ.1 (34 + g) 2 ∧ τ.1 (34 + g) 3 = σ.1 (34 + g) 3 ∧ τ.1 (34 + g) 6 = σ.1 (34 + g) 6) ∧
  (∀ g, g < 6 → τ.1 (34 + g) 8 = 0 ∨ (τ.1 (34 + g) 8 = σ.1 (34 + g) 8 ∧ τ.1 (34 + g) 4 = σ.1 (34 + g) 4 ∧ τ.1 (34 + g) 5 = σ.1 (34 + g) 5)) ∧
  (∀ g, g < 6 → (bd (σ.1 (34 + g) 4) 4 → bd (τ.1 (34 + g) 4) 4) ∧ (bd (σ.1 (34 + g) 5) 7 → bd (τ.1 (34 + g) 5) 7)) ∧
  (∀ p, p < 8 → τ.1 (6 + p) 5 = σ.1 (6 + p) 5 ∧ (bd (σ.1 (6 + p) 6) 100 → bd (τ.1 (6 + p) 6) 100)) ∧
  (∀ p, p < 8 → τ.1 (6 + p) 3 = σ.1 (6 + p) 3 ∨ τ.1 (6 + p) 3 = 0 ∨ ∀ g : Nat, g < 6 → (g : Int) < (τ.1 0 5).toInt → (τ.1 (34 + g) 1).toNatClampNeg = p → τ.1 (34 + g) 8 = 0) ∧
  (∀ k, k < 12 → τ.1 (22 + k) 4 = σ.1 (22 + k) 4 ∧ (0 ≤ (σ.1 (22 + k) 2).toInt → 0 ≤ (τ.1 (22 + k) 2).toInt ∧ (τ.1 (22 + k) 2).toInt ≤ (σ.1 (22 + k) 2).toInt))
theorem Q.refl (σ : St) : Q σ σ := ⟨⟨rfl, rfl, rfl, rfl⟩, fun _ _ => ⟨rfl, rfl, rfl, rfl, rfl⟩, fun _ _ => Or.inr ⟨rfl, rfl, rfl⟩, fun _ _ => ⟨id, id⟩, fun _ _ => ⟨rfl, id⟩, fun _ _ => Or.inl rfl, fun _ _ => ⟨rfl, fun h => ⟨h, Int.le_refl _⟩⟩⟩
theorem Q.trans {σ τ ρ : St} (a : Q σ τ) (b : Q τ ρ) : Q σ ρ := by
  obtain ⟨⟨a3, a4, a5, a9⟩, aG, aA, aS, aP, aH, aK⟩ := a
  obtain ⟨⟨b3, b4, b5, b9⟩, bG, bA, bS, bP, bH, bK⟩ := b
  refine ⟨⟨b3.trans a3, b4.trans a4, b5.trans a5, b9.trans a9⟩, fun g hg => ?_, fun g hg => ?_, fun g hg => ⟨fun h => (bS g hg).1 ((aS g hg).1 h), fun h => (bS g hg).2 ((aS g hg).2 h)⟩, fun p hp => ⟨(bP p hp).1.trans (aP p hp).1, fun h => (bP p hp).2 ((aP p hp).2 h)⟩, fun p hp => ?_, fun k hk => ⟨(bK k hk).1.trans (aK k hk).1, fun h => ?_⟩⟩
  · obtain ⟨x0, x1, x2, x3, x6⟩ := aG g hg
    obtain ⟨y0, y1, y2, y3, y6⟩ := bG g hg
    exact ⟨y0.trans x0, y1.trans x1, y2.trans x2, y3.trans x3, y6.trans x6⟩
  · rcases bA g hg with h | ⟨h8, h4, h5⟩
    · exact Or.inl h
    · rcases aA g hg with k | ⟨k8, k4, k5⟩
      · exact Or.inl (h8.trans k)
      · exact Or.inr ⟨h8.trans k8, h4.trans k4, h5.trans k5⟩
  · rcases bH p hp with h | h | h
    · rcases aH p hp with k | k | k
      · exact Or.inl (h.trans k)
      · exact Or.inr (Or.inl (h.trans k))
      · refine Or.inr (Or.inr (fun g hg hc hq => ?_))
        have z := k g hg (by rw [← b5]; exact hc) (by rw [← (bG g hg).2.1]; exact hq)
        rcases bA g hg with w | ⟨w, -, -⟩
        · exact w
        · exact w.trans z
    · exact Or.inr (Or.inl h)
    · exact Or.inr (Or.inr h)
  · obtain ⟨u, v⟩ := (aK k hk).2 h
    obtain ⟨w, z⟩ := (bK k hk).2 u
    exact ⟨w, Int.le_trans z v⟩
theorem WF.q {σ τ : St} (h : WF σ) (q : Q σ τ) : WF τ := by
  obtain ⟨⟨a3, a4, a5, a9⟩, aG, aA, aS, aP, aH, aK⟩ := q
  refine wf_ext h a3 a4 a5 a9 (fun i hi => ⟨(aG i hi).1, (aG i hi).2.1, (aG i hi).2.2.2.1, ?_⟩) (fun i hi => (aK i hi).1)
  rcases aA i hi with k | ⟨k, -, -⟩
  · exact Or.inr (Or.inl k)
  · exact Or.inl k
theorem Q_eq {σ τ : St} (h : ∀ a b, Rel a b → τ.1 a b = σ.1 a b) : Q σ τ := by
  refine ⟨⟨h _ _ (by unfold Rel; omega), h _ _ (by unfold Rel; omega), h _ _ (by unfold Rel; omega), h _ _ (by unfold Rel; omega)⟩, fun g hg => ⟨h _ _ (by unfold Rel; omega), h _ _ (by unfold Rel; omega), h _ _ (by unfold Rel; omega), h _ _ (by unfold Rel; omega), h _ _ (by unfold Rel; omega)⟩, fun g hg => Or.inr ⟨h _ _ (by unfold Rel; omega), h _ _ (by unfold Rel; omega), h _ _ (by unfold Rel; omega)⟩, fun g hg => ⟨fun z => ?_, fun z => ?_⟩, fun p hp => ⟨h _ _ (by unfold Rel; omega), fun z => ?_⟩, fun p hp => Or.inl (h _ _ (by unfold Rel; omega)), fun k hk => ⟨h _ _ (by unfold Rel; omega), fun z => ?_⟩⟩
  · rw [h _ _ (by unfold Rel; omega)]; exact z
  · rw [h _ _ (by unfold Rel; omega)]; exact z
  · rw [h _ _ (by unfold Rel; omega)]; exact z
  · rw [h _ _ (by unfold Rel; omega)]; exact ⟨z, Int.le_refl _⟩
theorem Q_irr {σ : St} {c k : Nat} {v : Int32} (h : ¬ Rel c k) : Q σ (up σ c k v) := Q_eq fun a b hr => up_o (by rintro ⟨rfl, rfl⟩; exact h hr)
theorem Q_L {σ : St} {v : Int64} : Q σ (upL σ v) := Q_eq fun _ _ _ => rfl
theorem Q_down {σ τ : St} (i : Nat) (h : ∀ a b, Rel a b → ¬ (a = 34 + i ∧ (b = 4 ∨ b = 5 ∨ b = 8)) → τ.1 a b = σ.1 a b) (h8 : τ.1 (34 + i) 8 = 0) (h4 : bd (σ.1 (34 + i) 4) 4 → bd (τ.1 (34 + i) 4) 4) (h5 : bd (σ.1 (34 + i) 5) 7 → bd (τ.1 (34 + i) 5) 7) : Q σ τ := by
  refine ⟨⟨h _ _ (by unfold Rel; omega) (by omega), h _ _ (by unfold Rel; omega) (by omega), h _ _ (by unfold Rel; omega) (by omega), h _ _ (by unfold Rel; omega) (by omega)⟩, fun g hg => ⟨h _ _ (by unfold Rel; omega) (by omega), h _ _ (by unfold Rel; omega) (by omega), h _ _ (by unfold Rel; omega) (by omega), h _ _ (by unfold Rel; omega) (by omega), h _ _ (by unfold Rel; omega) (by omega)⟩, fun g hg => ?_, fun g hg => ?_, fun p hp => ⟨h _ _ (by unfold Rel; omega) (by omega), fun z => ?_⟩, fun p hp => Or.inl (h _ _ (by unfold Rel; omega) (by omega)), fun k hk => ⟨h _ _ (by unfold Rel; omega) (by omega), fun z => ?_⟩⟩
  · by_cases e : g = i
    · subst e; exact Or.inl h8
    · exact Or.inr ⟨h _ _ (by unfold Rel; omega) (by omega), h _ _ (by unfold Rel; omega) (by omega), h _ _ (by unfold Rel; omega) (by omega)⟩
  · by_cases e : g = i
    · subst e; exact ⟨h4, h5⟩
    · exact ⟨fun z => by rw [h _ _ (by unfold Rel; omega) (by omega)]; exact z, fun z => by rw [h _ _ (by unfold Rel; omega) (by omega)]; exact z⟩
  · rw [h _ _ (by unfold Rel; omega) (by omega)]; exact z
  · rw [h _ _ (by unfold Rel; omega) (by omega)]; exact ⟨z, Int.le_refl _⟩
theorem Q_person {σ τ : St} (i : Nat) (hi : i < 8) (h : ∀ a b, Rel a b → ¬ (a = 6 + i ∧ (b = 3 ∨ b = 6)) → τ.1 a b = σ.1 a b) (h6 : bd (σ.1 (6 + i) 6) 100 → bd (τ.1 (6 + i) 6) 100) (h3 : τ.1 (6 + i) 3 = σ.1 (6 + i) 3 ∨ τ.1 (6 + i) 3 = 0 ∨ ∀ g : Nat, g < 6 → (g : Int) < (τ.1 0 5).toInt → (τ.1 (34 + g) 1).toNatClampNeg = i → τ.1 (34 + g) 8 = 0) : Q σ τ := by
  refine ⟨⟨h _ _ (by unfold Rel; omega) (by omega), h _ _ (by unfold Rel; omega) (by omega), h _ _ (by unfold Rel; omega) (by omega), h _ _ (by unfold Rel; omega) (by omega)⟩, fun g hg => ⟨h _ _ (by unfold Rel; omega) (by omega), h _ _ (by unfold Rel; omega) (by omega), h _ _ (by unfold Rel; omega) (by omega), h _ _ (by unfold Rel; omega) (by omega), h _ _ (by unfold Rel; omega) (by omega)⟩, fun g hg => Or.inr ⟨h _ _ (by unfold Rel; omega) (by omega), h _ _ (by unfold Rel; omega) (by omega), h _ _ (by unfold Rel; omega) (by omega)⟩, fun g hg => ⟨fun z => ?_, fun z => ?_⟩, fun p hp => ⟨h _ _ (by unfold Rel; omega) (by omega), fun z => ?_⟩, fun p hp => ?_, fun k hk => ⟨h _ _ (by unfold Rel; omega) (by omega), fun z => ?_⟩⟩
  · rw [h _ _ (by unfold Rel; omega) (by omega)]; exact z
  · rw [h _ _ (by unfold Rel; omega) (by omega)]; exact z
  · by_cases e : p = i
    · subst e; exact h6 z
    · rw [h _ _ (by unfold Rel; omega) (by omega)]; exact z
  · by_cases e : p = i
    · subst e; exact h3
    · exact Or.inl (h _ _ (by unfold Rel; omega) (by omega))
  · rw [h _ _ (by unfold Rel; omega) (by omega)]; exact ⟨z, Int.le_refl _⟩
theorem Q_uses {σ : St} {i : Nat} {v : Int32} (hi : i < 12) (hv : 0 ≤ (σ.1 (22 + i) 2).toInt → 0 ≤ v.toInt ∧ v.toInt ≤ (σ.1 (22 + i) 2).toInt) : Q σ (up σ (22 + i) 2 v) := by
  have h : ∀ a b, Rel a b → ¬ (a = 22 + i ∧ b = 2) → (up σ (22 + i) 2 v).1 a b = σ.1 a b := fun a b _ hr => up_o hr
  refine ⟨⟨h _ _ (by unfold Rel; omega) (by omega), h _ _ (by unfold Rel; omega) (by omega), h _ _ (by unfold Rel; omega) (by omega), h _ _ (by unfold Rel; omega) (by omega)⟩, fun g hg => ⟨h _ _ (by unfold Rel; omega) (by omega), h _ _ (by unfold Rel; omega) (by omega), h _ _ (by unfold Rel; omega) (by omega), h _ _ (by unfold Rel; omega) (by omega), h _ _ (by unfold Rel; omega) (by omega)⟩, fun g hg => Or.inr ⟨h _ _ (by unfold Rel; omega) (by omega), h _ _ (by unfold Rel; omega) (by omega), h _ _ (by unfold Rel; omega) (by omega)⟩, fun g hg => ⟨fun z => ?_, fun z => ?_⟩, fun p hp => ⟨h _ _ (by unfold Rel; omega) (by omega), fun z => ?_⟩, fun p hp => Or.inl (h _ _ (by unfold Rel; omega) (by omega)), fun k hk => ⟨h _ _ (by unfold Rel; omega) (by omega), fun z => ?_⟩⟩
  · rw [h _ _ (by unfold Rel; omega) (by omega)]; exact z
  · rw [h _ _ (by unfold Rel; omega) (by omega)]; exact z
  · rw [h _ _ (by unfold Rel; omega) (by omega)]; exact z
  · by_cases e : k = i
    · subst e; rw [up_s]; exact hv z
    · rw [h _ _ (by unfold Rel; omega) (by omega)]; exact ⟨z, Int.le_refl _⟩
theorem bd0 (n : Nat) : bd 0 n := ⟨by decide, by rw [show (0 : Int32).toInt = 0 from rfl]; omega⟩
/-! standing down -/
theorem sd_o {σ : St} {g : Int32} {a b : Nat} (h : ¬ (a = 34 + g.toNatClampNeg ∧ b = 8)) (h2 : ¬ (a = 0 ∧ b = 13)) : (f_standDown σ g).1 a b = σ.1 a b := by
  unfold f_standDown
  split
  · rfl
  · show (up (up σ _ 8 0) 0 13 _).1 a b = _
    rw [up_o h2, up_o h]
theorem sd_s {σ : St} {g : Int32} : (f_standDown σ g).1 (34 + g.toNatClampNeg) 8 = 0 := by
  unfold f_standDown
  split
  · assumption
  · show (up (up σ _ 8 0) 0 13 _).1 _ 8 = 0
    rw [up_o (by omega), up_s]
theorem Q_standDown (σ : St) (g : Int32) : Q σ (f_standDown σ g) :=
  Q_down g.toNatClampNeg (fun a b hr h => sd_o (by omega) (by unfold Rel at hr; omega)) sd_s (fun h => by rw [sd_o (by omega) (by omega)]; exact h) (fun h => by rw [sd_o (by omega) (by omega)]; exact h)
theorem ls_o {σ : St} {g : Int32} {a b : Nat} (h : ¬ (a = 34 + g.toNatClampNeg ∧ (b = 8 ∨ b = 5))) (h2 : ¬ (a = 0 ∧ b = 13)) : (f_loseSignatures σ g).1 a b = σ.1 a b := by
  show (f_standDown (up σ _ 5 0) g).1 a b = _
  rw [sd_o (by omega) h2, up_o (by omega)]
theorem ls_8 {σ : St} {g : Int32} : (f_loseSignatures σ g).1 (34 + g.toNatClampNeg) 8 = 0 := sd_s
theorem ls_5 {σ : St} {g : Int32} : (f_loseSignatures σ g).1 (34 + g.toNatClampNeg) 5 = 0 := by
  show (f_standDown (up σ _ 5 0) g).1 _ _ = _
  rw [sd_o (by omega) (by omega), up_s]
theorem Q_loseSignatures (σ : St) (g : Int32) : Q σ (f_loseSignatures σ g) :=
  Q_down g.toNatClampNeg (fun a b hr h => ls_o (by omega) (by unfold Rel at hr; omega)) ls_8 (fun h => by rw [ls_o (by omega) (by omega)]; exact h) (fun h => by rw [ls_5]; exact bd0 7)
theorem bd_min {x y : Int32} {n : Nat} (h : bd x n) (hy : bd y n) : bd (if x < y then x else y) n := by
  split
  · exact h
  · exact hy
theorem Q_becomeChanged (σ : St) (g : Int32) : Q σ (f_becomeChanged σ g) := by
  have e : f_becomeChanged σ g = up (f_loseSignatures σ g) (34 + g.toNatClampNeg) 4 (if ((f_loseSignatures σ g).1 (34 + g.toNatClampNeg) 4) < (2 : Int32) then ((f_loseSignatures σ g).1 (34 + g.toNatClampNeg) 4) else (2 : Int32)) := rfl
  rw [e]
  refine Q_down g.toNatClampNeg (fun a b hr h => ?_) ?_ (fun h => ?_) (fun h => ?_)
  · rw [up_o (by omega), ls_o (by omega) (by unfold Rel at hr; omega)]
  · rw [up_o (by omega), ls_8]
  · rw [up_s, ls_o (by omega) (by omega)]
    exact bd_min h ⟨by decide, by decide⟩
  · rw [up_o (by omega), ls_5]
    exact bd0 7
theorem Q_standDownOccupied (σ : St) : Q σ (f_standDownOccupied σ) := by
  have key : ∀ (n : Nat) (σ : St) (y : Int32), Q σ (f_standDownOccupied_L2 n σ y) := by
    intro n
    induction n with
    | zero => intro σ y; exact Q.refl σ
    | succ n ih =>
      intro σ y
      rw [f_standDownOccupied_L2]
      split
      · exact Q.refl σ
      · split
        · exact ih σ _
        · exact (Q_standDown σ y).trans (ih _ _)
  exact key 128 σ 0
theorem Q_addMiss (σ : St) (x : Int32) : Q σ (f_addMiss σ x) := by
  have key : ∀ (n : Nat) (σ : St) (y : Int32), Q σ (f_addMiss_L34 x n σ y) := by
    intro n
    induction n with
    | zero => intro σ y; exact Q.refl σ
    | succ n ih =>
      intro σ y
      rw [f_addMiss_L34]
      split
      · exact Q.refl σ
      · split
        · exact (Q_loseSignatures σ y).trans (ih _ _)
        · exact ih σ _
  have h1 : Q σ (up σ 5 x.toNatClampNeg ((σ.1 5 x.toNatClampNeg) + (1 : Int32))) := Q_irr (by unfold Rel; omega)
  unfold f_addMiss
  generalize up σ 5 x.toNatClampNeg ((σ.1 5 x.toNatClampNeg) + (1 : Int32)) = σ1 at h1 ⊢
  dsimp only
  split
  · exact (h1.trans (Q_irr (by unfold Rel; omega))).trans (key _ _ _)
  · exact h1
/-! numbers in range: energy, ring; places of ints -/
theorem ix_to {x : Int32} (h : 0 ≤ x.toInt) : ((x.toNatClampNeg : Nat) : Int) = x.toInt := by
  have : x.toNatClampNeg = x.toInt.toNat := rfl
  omega
theorem ix_inj {a b : Int32} (ha : 0 ≤ a.toInt) (hb : 0 ≤ b.toInt) (h : a.toNatClampNeg = b.toNatClampNeg) : a = b := by
  have e1 := ix_to ha
  have e2 := ix_to hb
  exact Int32.toInt_inj.mp (by omega)
theorem ix_s {y : Int32} (h0 : 0 ≤ y.toInt) (h1 : y.toInt < 1000) : (y + 1).toNatClampNeg = y.toNatClampNeg + 1 := by
  have e := i_add1 (x := y) (by omega) (by omega)
  have a := ix_to h0
  have b := ix_to (x := y + 1) (by omega)
  omega
theorem en_0 : ∀ j, j < 31 → bd (10 * nI j) 450 := by unfold bd; decide +kernel
theorem en_1 : ∀ j, j < 31 → bd (nI j * nI j / 2) 450 := by unfold bd; decide +kernel
theorem en_2 : ∀ j, j < 31 → ∀ i, i < 10 → bd (6 * nI j + nI i * nI j) 450 := by unfold bd; decide +kernel
theorem en_3 : ∀ j, j < 31 → bd (5 * nI j) 450 := by unfold bd; decide +kernel
theorem en_at {σ : St} {k x : Int32} (h : WF σ) (hx : vp_in x 31) : bd (f_energyAt σ k x) 450 := by
  obtain ⟨j, hj, rfl⟩ := vp_in_of hx (by omega)
  obtain ⟨i, hi, hw⟩ := vp_in_of (x := σ.1 0 9) (n := 10) (vp_to h.2.2.2.1.1 (by have := h.2.2.2.1.2; omega)) (by omega)
  unfold f_energyAt
  split
  · exact en_0 j hj
  · split
    · exact en_1 j hj
    · split
      · rw [hw]; exact en_2 j hj i hi
      · exact en_3 j hj
theorem en_bd {σ : St} {g : Int32} (h : WF σ) (hg : vp_in g 6) : bd (f_energyOf σ g) 450 := en_at h (WF.gl h hg)
theorem d15 : ∀ j, j < 451 → bd (nI j / 15) 30 := by unfold bd; decide +kernel
theorem d10 : ∀ j, j < 451 → bd (nI j / 10) 45 := by unfold bd; decide +kernel
theorem bd_nI {x : Int32} {n : Nat} (h : bd x n) (hn : n + 1 < 2 ^ 31) : ∃ j, j < n + 1 ∧ x = nI j := vp_in_of (vp_to h.1 (by have := h.2; omega)) hn
theorem ring_bd {σ : St} {g : Int32} (h : WF σ) (hg : vp_in g 6) : bd (f_ringOf σ g) 30 := by
  obtain ⟨j, hj, e⟩ := bd_nI (en_at (k := σ.1 (34 + g.toNatClampNeg) 0) h (WF.gl h hg)) (by omega)
  unfold f_ringOf
  rw [e]
  exact d15 j hj
theorem lp_ring {x : Int32} (h : bd x 30) : lpI 100 (x + 1) 128 := by
  obtain ⟨h1, h2⟩ := h
  have e := i_add1 (x := x) (by omega) (by omega)
  refine ⟨?_, ?_, ?_⟩ <;> (rw [e]) <;> omega
theorem bfp_in {σ : St} (h : WF σ) (x1 x2 : Int32) : f_bestFreePiece σ x1 x2 = -1 ∨ vp_in (f_bestFreePiece σ x1 x2) 12 := by
  have key : ∀ (n : Nat) (y b : Int32), lpI 12 y n → (b = -1 ∨ vp_in b 12) → f_bestFreePiece_L5 σ x1 x2 n y b = -1 ∨ vp_in (f_bestFreePiece_L5 σ x1 x2 n y b) 12 := by
    intro n
    induction n with
    | zero => intro y b hl _; exact (lp_0 hl).elim
    | succ n ih =>
      intro y b hl hb
      rw [f_bestFreePiece_L5]
      split
      · exact hb
      · rename_i c
        have hlt : y.toInt < 12 := lt_nle c h.2.1.2
        have hs := lp_s hl hlt
        have hy : y = -1 ∨ vp_in y 12 := Or.inr (lp_i hl hlt)
        repeat' split
        all_goals first | exact ih _ _ hs hb | exact ih _ _ hs hy
  exact key 128 0 (-1) (lp_z (by decide)) (Or.inl rfl)
/-! tired, hurt, uses, pay, a day -/
theorem tired_bd {x m : Int32} (h : bd x 100) (hm : bd m 1000) : bd (if x + m < (100 : Int32) then x + m else (100 : Int32)) 100 := by
  obtain ⟨h1, h2⟩ := h
  obtain ⟨m1, m2⟩ := hm
  have e : (x + m).toInt = x.toInt + m.toInt := by
    rw [Int32.toInt_add]
    rw [Int.bmod_eq_of_le] <;> omega
  split
  · rename_i c
    have q := i_lt.mp c
    rw [show (100 : Int32).toInt = 100 from rfl] at q
    exact ⟨by omega, by omega⟩
  · exact ⟨by decide, by decide⟩
theorem Q_tire {σ : St} {i : Nat} {m : Int32} (hi : i < 8) (hm : bd m 1000) : Q σ (f_tire σ i m) := by
  show Q σ (up σ (6 + i) 6 _)
  refine Q_person i hi (fun a b _ h => up_o (by omega)) (fun h => ?_) (Or.inl (up_o (by omega)))
  rw [up_s]
  exact tired_bd h hm
theorem hurt_loop {x : Int32} : ∀ (n : Nat) (σ : St) (y : Int32), WF σ → lpI 6 y n → Q σ (f_hurt_L35 x n σ y) ∧ ∀ g : Nat, y.toNatClampNeg ≤ g → (g : Int) < (σ.1 0 5).toInt → σ.1 (34 + g) 1 = x → (f_hurt_L35 x n σ y).1 (34 + g) 8 = 0 := by
  intro n
  induction n with
  | zero => intro σ y _ hl; exact (lp_0 hl).elim
  | succ n ih =>
    intro σ y hw hl
    rw [f_hurt_L35]
    split
    · rename_i c
      refine ⟨Q.refl σ, fun g h1 h2 _ => ?_⟩
      have := ix_to hl.1
      have q := i_le.mp c
      omega
    · rename_i c
      have hlt : y.toInt < 6 := lt_nle c hw.2.2.1.2
      have hs := lp_s hl hlt
      have e1 := ix_s hl.1 (by omega)
      split
      · rename_i c2
        have q1 := Q_standDown σ y
        obtain ⟨q2, q3⟩ := ih (f_standDown σ y) (y + 1) (hw.q q1) hs
        refine ⟨q1.trans q2, fun g h1 h2 h3 => ?_⟩
        have hg6 : g < 6 := by have := hw.2.2.1.2; omega
        by_cases e : g = y.toNatClampNeg
        · subst e
          rcases q2.2.2.1 _ hg6 with k | ⟨k, -, -⟩
          · exact k
          · exact k.trans sd_s
        · exact q3 g (by omega) (by rw [q1.1.2.2.1]; exact h2) (by rw [(q1.2.1 g hg6).2.1]; exact h3)
      · rename_i c2
        obtain ⟨q2, q3⟩ := ih σ (y + 1) hw hs
        refine ⟨q2, fun g h1 h2 h3 => ?_⟩
        by_cases e : g = y.toNatClampNeg
        · subst e
          exact absurd h3 c2
        · exact q3 g (by omega) h2 h3
theorem Q_hurt {σ : St} {x : Int32} (hw : WF σ) (hx : vp_in x 8) : Q σ (f_hurt σ x) := by
  have hi := ix_lt hx
  obtain ⟨σ3, e3⟩ : ∃ z, z = up (up (up σ (6 + x.toNatClampNeg) 3 (1 : Int32)) (6 + x.toNatClampNeg) 4 ((up σ (6 + x.toNatClampNeg) 3 (1 : Int32)).1 0 8)) 0 11 (((up (up σ (6 + x.toNatClampNeg) 3 (1 : Int32)) (6 + x.toNatClampNeg) 4 ((up σ (6 + x.toNatClampNeg) 3 (1 : Int32)).1 0 8)).1 0 11) + (1 : Int32)) := ⟨_, rfl⟩
  have ef : f_hurt σ x = f_hurt_L35 x 128 σ3 0 := by rw [e3]; rfl
  have h : ∀ a b, Rel a b → ¬ (a = 6 + x.toNatClampNeg ∧ b = 3) → σ3.1 a b = σ.1 a b := by
    intro a b hr hn
    rw [e3, up_o (by unfold Rel at hr; omega), up_o (by unfold Rel at hr; omega), up_o (by omega)]
  have hw3 : WF σ3 := wf_ext hw (h _ _ (by unfold Rel; omega) (by omega)) (h _ _ (by unfold Rel; omega) (by omega)) (h _ _ (by unfold Rel; omega) (by omega)) (h _ _ (by unfold Rel; omega) (by omega)) (fun i hi => ⟨h _ _ (by unfold Rel; omega) (by omega), h _ _ (by unfold Rel; omega) (by omega), h _ _ (by unfold Rel; omega) (by omega), Or.inl (h _ _ (by unfold Rel; omega) (by omega))⟩) (fun i hi => h _ _ (by unfold Rel; omega) (by omega))
  obtain ⟨q, hd⟩ := hurt_loop (x := x) 128 σ3 0 hw3 (lp_z (by decide))
  rw [ef]
  obtain ⟨⟨a3, a4, a5, a9⟩, aG, aA, aS, aP, aH, aK⟩ := q
  have g5 := h 0 5 (by unfold Rel; omega) (by omega)
  refine ⟨⟨a3.trans (h _ _ (by unfold Rel; omega) (by omega)), a4.trans (h _ _ (by unfold Rel; omega) (by omega)), a5.trans g5, a9.trans (h _ _ (by unfold Rel; omega) (by omega))⟩, fun g hg => ?_, fun g hg => ?_, fun g hg => ?_, fun p hp => ?_, fun p hp => ?_, fun k hk => ?_⟩
  · obtain ⟨x0, x1, x2, x3, x6⟩ := aG g hg
    exact ⟨x0.trans (h _ _ (by unfold Rel; omega) (by omega)), x1.trans (h _ _ (by unfold Rel; omega) (by omega)), x2.trans (h _ _ (by unfold Rel; omega) (by omega)), x3.trans (h _ _ (by unfold Rel; omega) (by omega)), x6.trans (h _ _ (by unfold Rel; omega) (by omega))⟩
  · rcases aA g hg with k | ⟨k8, k4, k5⟩
    · exact Or.inl k
    · exact Or.inr ⟨k8.trans (h _ _ (by unfold Rel; omega) (by omega)), k4.trans (h _ _ (by unfold Rel; omega) (by omega)), k5.trans (h _ _ (by unfold Rel; omega) (by omega))⟩
  · have := aS g hg
    rw [h (34 + g) 4 (by unfold Rel; omega) (by omega), h (34 + g) 5 (by unfold Rel; omega) (by omega)] at this
    exact this
  · have := aP p hp
    rw [h (6 + p) 5 (by unfold Rel; omega) (by omega), h (6 + p) 6 (by unfold Rel; omega) (by omega)] at this
    exact this
  · by_cases e : p = x.toNatClampNeg
    · refine Or.inr (Or.inr (fun g hg hc hq => ?_))
      refine hd g (Nat.zero_le _) (by rw [← a5]; exact hc) ?_
      have e1 := (aG g hg).2.1
      rw [e1] at hq
      have v1 := (hw3.2.2.2.2.1 g hg).2.1
      exact ix_inj (vp_in_iff.mp v1).1 (vp_in_iff.mp hx).1 (hq.trans e)
    · rcases aH p hp with k | k | k
      · exact Or.inl (k.trans (h _ _ (by unfold Rel; omega) (by omega)))
      · exact Or.inr (Or.inl k)
      · exact Or.inr (Or.inr k)
  · have := aK k hk
    rw [h (22 + k) 4 (by unfold Rel; omega) (by omega), h (22 + k) 2 (by unfold Rel; omega) (by omega)] at this
    exact this
theorem i_sub1 {x : Int32} (h0 : -1000 ≤ x.toInt) (h1 : x.toInt < 1000000) : (x - 1).toInt = x.toInt - 1 := by
  rw [Int32.toInt_sub, show (1 : Int32).toInt = 1 from rfl]
  rw [Int.bmod_eq_of_le] <;> omega
theorem guards_uses {σ : St} {y g : Int32} (h : ¬ f_guards σ y g = 0) : 0 < (σ.1 (22 + y.toNatClampNeg) 2).toInt := by
  unfold f_guards at h
  split at h
  · split at h
    · split at h
      · exact absurd rfl h
      · rename_i _ _ c
        unfold f_isFit at c
        split at c
        · exact absurd rfl c
        · rename_i c2
          have := i_nle c2
          rw [show (0 : Int32).toInt = 0 from rfl] at this
          exact this
    · exact absurd rfl h
  · exact absurd rfl h
theorem Q_useKitOf {σ : St} (hw : WF σ) (g : Int32) : Q σ (f_useKitOf σ g) := by
  have key : ∀ (n : Nat) (σ : St) (y : Int32), WF σ → lpI 12 y n → Q σ (f_useKitOf_L2 g n σ y) := by
    intro n
    induction n with
    | zero => intro σ y _ hl; exact (lp_0 hl).elim
    | succ n ih =>
      intro σ y hw hl
      rw [f_useKitOf_L2]
      split
      · exact Q.refl σ
      · rename_i c
        have hlt : y.toInt < 12 := lt_nle c hw.2.1.2
        have hs := lp_s hl hlt
        split
        · exact ih σ _ hw hs
        · rename_i c2
          have hu := guards_uses c2
          have q : Q σ (up σ (22 + y.toNatClampNeg) 2 ((σ.1 (22 + y.toNatClampNeg) 2) - (1 : Int32))) := by
            refine Q_uses (ix_lt (lp_i hl hlt)) (fun _ => ?_)
            have e : ((σ.1 (22 + y.toNatClampNeg) 2) - (1 : Int32)).toInt = (σ.1 (22 + y.toNatClampNeg) 2).toInt - 1 := by
              have b := Int32.toInt_lt (σ.1 (22 + y.toNatClampNeg) 2)
              rw [Int32.toInt_sub, show (1 : Int32).toInt = 1 from rfl]
              rw [Int.bmod_eq_of_le] <;> omega
            rw [e]
            omega
          exact q.trans (ih _ _ (hw.q q) hs)
  exact key 128 σ 0 hw (lp_z (by decide))
theorem Q_payFor {σ : St} {g : Int32} (hw : WF σ) (hg : vp_in g 6) : Q σ (f_payFor σ g) := by
  have key : ∀ (n : Nat) (σ : St) (y : Int32), Q σ (f_payFor_L55 g n σ y) := by
    intro n
    induction n with
    | zero => intro σ y; exact Q.refl σ
    | succ n ih =>
      intro σ y
      rw [f_payFor_L55]
      split
      · exact Q.refl σ
      · split
        · exact ih σ _
        · exact (Q_irr (by unfold Rel; omega)).trans (ih _ _)
  have hi := ix_lt (WF.gp hw hg)
  have hm : bd ((f_energyOf σ g) / (10 : Int32)) 1000 := by
    obtain ⟨j, hj, e⟩ := bd_nI (en_bd hw hg) (by omega)
    rw [e]
    have := d10 j hj
    exact ⟨this.1, by have := this.2; omega⟩
  have q1 : Q σ (f_tire σ ((σ.1 (34 + g.toNatClampNeg) 1).toNatClampNeg) ((f_energyOf σ g) / (10 : Int32))) := Q_tire hi hm
  unfold f_payFor
  generalize f_tire σ ((σ.1 (34 + g.toNatClampNeg) 1).toNatClampNeg) ((f_energyOf σ g) / (10 : Int32)) = σ1 at q1 ⊢
  exact ((q1.trans (Q_irr (by unfold Rel; omega))).trans (Q_irr (by unfold Rel; omega))).trans (key _ _ _)
theorem day_bd {x : Int32} (h : bd x 100) : bd (if (0 : Int32) < x - (30 : Int32) then x - (30 : Int32) else (0 : Int32)) 100 := by
  obtain ⟨h1, h2⟩ := h
  have e : (x - 30).toInt = x.toInt - 30 := by
    rw [Int32.toInt_sub, show (30 : Int32).toInt = 30 from rfl]
    rw [Int.bmod_eq_of_le] <;> omega
  split
  · rename_i c
    have q := i_lt.mp c
    rw [show (0 : Int32).toInt = 0 from rfl] at q
    exact ⟨by omega, by omega⟩
  · exact ⟨by decide, by decide⟩
theorem Q_passOneDay {σ : St} (hw : WF σ) : Q σ (f_passOneDay σ) := by
  have k75 : ∀ (n : Nat) (σ : St) (y : Int32), Q σ (f_passOneDay_L75 n σ y) := by
    intro n
    induction n with
    | zero => intro σ y; exact Q.refl σ
    | succ n ih =>
      intro σ y
      rw [f_passOneDay_L75]
      split
      · exact Q.refl σ
      · exact (Q_irr (by unfold Rel; omega)).trans (ih _ _)
  have k12 : ∀ (n : Nat) (σ : St) (y : Int32), WF σ → lpI 8 y n → Q σ (f_passOneDay_L12 n σ y) := by
    intro n
    induction n with
    | zero => intro σ y _ hl; exact (lp_0 hl).elim
    | succ n ih =>
      intro σ y hw hl
      rw [f_passOneDay_L12]
      split
      · exact k75 _ _ _
      · rename_i c
        have hlt : y.toInt < 8 := lt_nle c hw.1.2
        have hs := lp_s hl hlt
        have hi := ix_lt (lp_i hl hlt)
        have q1 : Q σ (up σ (6 + y.toNatClampNeg) 6 (if (0 : Int32) < ((σ.1 (6 + y.toNatClampNeg) 6) - (30 : Int32)) then ((σ.1 (6 + y.toNatClampNeg) 6) - (30 : Int32)) else (0 : Int32))) :=
          Q_person _ hi (fun a b _ h => up_o (by omega)) (fun h => by rw [up_s]; exact day_bd h) (Or.inl (up_o (by omega)))
        generalize up σ (6 + y.toNatClampNeg) 6 (if (0 : Int32) < ((σ.1 (6 + y.toNatClampNeg) 6) - (30 : Int32)) then ((σ.1 (6 + y.toNatClampNeg) 6) - (30 : Int32)) else (0 : Int32)) = σ3 at q1 ⊢
        have hw3 := hw.q q1
        dsimp only
        split
        · exact q1.trans (ih _ _ hw3 hs)
        · split
          · exact q1.trans (ih _ _ hw3 hs)
          · have q2 : Q σ3 (up σ3 (6 + y.toNatClampNeg) 3 (0 : Int32)) := Q_person _ hi (fun a b _ h => up_o (by omega)) (fun h => by rw [up_o (by omega)]; exact h) (Or.inr (Or.inl up_s))
            exact (q1.trans q2).trans (ih _ _ (hw3.q q2) hs)
  have q0 : Q σ (up σ 0 8 ((σ.1 0 8) + (1 : Int32))) := Q_irr (by unfold Rel; omega)
  exact q0.trans (k12 128 _ 0 (hw.q q0) (lp_z (by decide)))
/-! WF behind each -/
theorem wf_standDown {σ : St} {g : Int32} (h : WF σ) (_ : vp_in g 6) : WF (f_standDown σ g) := h.q (Q_standDown σ g)
theorem wf_standDownOccupied {σ : St} (h : WF σ) : WF (f_standDownOccupied σ) := h.q (Q_standDownOccupied σ)
theorem wf_loseSignatures {σ : St} {g : Int32} (h : WF σ) (_ : vp_in g 6) : WF (f_loseSignatures σ g) := h.q (Q_loseSignatures σ g)
theorem wf_becomeChanged {σ : St} {g : Int32} (h : WF σ) (_ : vp_in g 6) : WF (f_becomeChanged σ g) := h.q (Q_becomeChanged σ g)
theorem wf_addMiss {σ : St} {k : Int32} (h : WF σ) (_ : vp_in k 4) : WF (f_addMiss σ k) := h.q (Q_addMiss σ k)
theorem wf_tire {σ : St} {i : Nat} {m : Int32} (h : WF σ) (hi : i < 8) : WF (f_tire σ i m) := wf_up h (fun h => absurd h (by omega)) (fun h => absurd h (by omega)) (fun h => absurd h (by omega))
theorem wf_hurt {σ : St} {x : Int32} (h : WF σ) (hx : vp_in x 8) : WF (f_hurt σ x) := h.q (Q_hurt h hx)
theorem wf_useKitOf {σ : St} {g : Int32} (h : WF σ) (_ : vp_in g 6) : WF (f_useKitOf σ g) := h.q (Q_useKitOf h g)
theorem wf_payFor {σ : St} {g : Int32} (h : WF σ) (hg : vp_in g 6) : WF (f_payFor σ g) := h.q (Q_payFor h hg)
theorem wf_passOneDay {σ : St} (h : WF σ) : WF (f_passOneDay σ) := h.q (Q_passOneDay h)
end
section
/-! ===== what holds of a ledger between the law's calls ===== -/
/-- in bounds: steps, signatures, tired, uses -/
def IV (σ : St) : Prop := WF σ ∧ (∀ g, g < 6 → bd (σ.1 (34 + g) 4) 4 ∧ bd (σ.1 (34 + g) 5) 7) ∧ (∀ p, p < 8 → bd (σ.1 (6 + p) 6) 100) ∧ (∀ k, k < 12 → 0 ≤ (σ.1 (22 + k) 2).toInt)
def NA (σ : St) : Prop := ∀ g, g < 6 → σ.1 (34 + g) 8 = 0
def OK4 (σ : St) (g : Int32) : Prop := σ.1 (34 + g.toNatClampNeg) 4 = 4 ∧ σ.1 (34 + g.toNatClampNeg) 5 = 7 ∧ σ.1 (34 + g.toNatClampNeg) 6 = 0 ∧ σ.1 (6 + (σ.1 (34 + g.toNatClampNeg) 1).toNatClampNeg) 3 = 0
def RG (σ : St) (g : Int32) : Prop := ∀ p : Int32, inr p (σ.1 0 3) → f_standsInRing σ p g = 0
/-- what is armed is signed, and its ring is empty -/
def INV (σ : St) : Prop := IV σ ∧ ∀ g : Int32, inr g (σ.1 0 5) → σ.1 (34 + g.toNatClampNeg) 8 = 0 ∨ (OK4 σ g ∧ RG σ g)
theorem IV.q {σ τ : St} (h : IV σ) (q : Q σ τ) : IV τ := by
  obtain ⟨hw, hs, ht, hu⟩ := h
  have hw' := hw.q q
  obtain ⟨⟨a3, a4, a5, a9⟩, aG, aA, aS, aP, aH, aK⟩ := q
  exact ⟨hw', fun g hg => ⟨(aS g hg).1 (hs g hg).1, (aS g hg).2 (hs g hg).2⟩, fun p hp => (aP p hp).2 (ht p hp), fun k hk => ((aK k hk).2 (hu k hk)).1⟩
theorem NA.q {σ τ : St} (h : NA σ) (q : Q σ τ) : NA τ := by
  intro g hg
  rcases q.2.2.1 g hg with k | ⟨k, -, -⟩
  · exact k
  · exact k.trans (h g hg)
theorem ring_congr {σ τ : St} {p g : Int32} (h9 : τ.1 0 9 = σ.1 0 9) (h0 : τ.1 (34 + g.toNatClampNeg) 0 = σ.1 (34 + g.toNatClampNeg) 0) (h1 : τ.1 (34 + g.toNatClampNeg) 1 = σ.1 (34 + g.toNatClampNeg) 1) (h2 : τ.1 (34 + g.toNatClampNeg) 2 = σ.1 (34 + g.toNatClampNeg) 2) (h3 : τ.1 (34 + g.toNatClampNeg) 3 = σ.1 (34 + g.toNatClampNeg) 3) (h5 : τ.1 (6 + p.toNatClampNeg) 5 = σ.1 (6 + p.toNatClampNeg) 5) : f_standsInRing τ p g = f_standsInRing σ p g := by
  have e : f_ringOf τ g = f_ringOf σ g := by
    unfold f_ringOf f_energyAt
    rw [h0, h3, h9]
  unfold f_standsInRing
  rw [h1, h2, h5, e]
theorem ring_q {σ τ : St} {p g : Int32} (q : Q σ τ) (hg : vp_in g 6) (hp : vp_in p 8) : f_standsInRing τ p g = f_standsInRing σ p g := by
  obtain ⟨⟨a3, a4, a5, a9⟩, aG, aA, aS, aP, aH, aK⟩ := q
  obtain ⟨x0, x1, x2, x3, x6⟩ := aG _ (ix_lt hg)
  exact ring_congr a9 x0 x1 x2 x3 (aP _ (ix_lt hp)).1
theorem RG.q {σ τ : St} {g : Int32} (hw : WF σ) (q : Q σ τ) (hg : vp_in g 6) (h : RG σ g) : RG τ g := by
  intro p hp
  rw [q.1.1] at hp
  rw [ring_q q hg (WF.p8 hw hp)]
  exact h p hp
theorem OK4.q {σ τ : St} {g : Int32} (hw : WF σ) (q : Q σ τ) (hg : inr g (σ.1 0 5)) (h : OK4 σ g) : τ.1 (34 + g.toNatClampNeg) 8 = 0 ∨ OK4 τ g := by
  have hg6 := WF.g6 hw hg
  have hi := ix_lt hg6
  have hp := ix_lt (WF.gp hw hg6)
  obtain ⟨⟨a3, a4, a5, a9⟩, aG, aA, aS, aP, aH, aK⟩ := q
  obtain ⟨x0, x1, x2, x3, x6⟩ := aG _ hi
  obtain ⟨o4, o5, o6, o3⟩ := h
  rcases aA _ hi with k | ⟨k8, k4, k5⟩
  · exact Or.inl k
  · rcases aH _ hp with w | w | w
    · exact Or.inr ⟨k4.trans o4, k5.trans o5, x6.trans o6, by rw [x1]; exact w.trans o3⟩
    · exact Or.inr ⟨k4.trans o4, k5.trans o5, x6.trans o6, by rw [x1]; exact w⟩
    · refine Or.inl (w _ hi ?_ (by rw [x1]))
      rw [a5, ix_to hg.1]
      exact hg.2
theorem INV.q {σ τ : St} (h : INV σ) (q : Q σ τ) : INV τ := by
  refine ⟨h.1.q q, fun g hg => ?_⟩
  rw [q.1.2.2.1] at hg
  have hw := h.1.1
  have hg6 := WF.g6 hw hg
  rcases h.2 g hg with k | ⟨k, r⟩
  · rcases q.2.2.1 _ (ix_lt hg6) with z | ⟨z, -, -⟩
    · exact Or.inl z
    · exact Or.inl (z.trans k)
  · rcases OK4.q hw q hg k with z | z
    · exact Or.inl z
    · exact Or.inr ⟨z, RG.q hw q hg6 r⟩
theorem INV.na {σ : St} (h : IV σ) (n : NA σ) : INV σ := ⟨h, fun g hg => Or.inl (n _ (ix_lt (WF.g6 h.1 hg)))⟩
/-- the numbers that 'armed, and all is well' of the gag g rests on -/
def ROK (g : Nat) (a b : Nat) : Prop := (a = 0 ∧ (b = 3 ∨ b = 9)) ∨ (a = 34 + g ∧ b ≤ 6) ∨ (6 ≤ a ∧ a < 14 ∧ (b = 3 ∨ b = 5))
theorem OK_congr {σ τ : St} {g : Int32} (hw : WF σ) (hg : vp_in g 6) (h : ∀ a b, ROK g.toNatClampNeg a b → τ.1 a b = σ.1 a b) (o : OK4 σ g ∧ RG σ g) : OK4 τ g ∧ RG τ g := by
  obtain ⟨⟨o4, o5, o6, o3⟩, r⟩ := o
  have hp := ix_lt (WF.gp hw hg)
  have e1 := h (34 + g.toNatClampNeg) 1 (by unfold ROK; omega)
  refine ⟨⟨(h _ _ (by unfold ROK; omega)).trans o4, (h _ _ (by unfold ROK; omega)).trans o5, (h _ _ (by unfold ROK; omega)).trans o6, ?_⟩, fun p hq => ?_⟩
  · rw [e1, h _ _ (by unfold ROK; omega)]
    exact o3
  · rw [h 0 3 (by unfold ROK; omega)] at hq
    have hp8 := ix_lt (WF.p8 hw hq)
    rw [ring_congr (h _ _ (by unfold ROK; omega)) (h _ _ (by unfold ROK; omega)) e1 (h _ _ (by unfold ROK; omega)) (h _ _ (by unfold ROK; omega)) (h _ _ (by unfold ROK; omega))]
    exact r p hq
theorem occ_0 {σ : St} {g : Int32} (hw : WF σ) (h : f_isOccupied σ g = 0) : RG σ g := by
  have key : ∀ (n : Nat) (y : Int32), lpI 8 y n → f_isOccupied_L2 σ g n y = 0 → ∀ p : Int32, y.toInt ≤ p.toInt → inr p (σ.1 0 3) → f_standsInRing σ p g = 0 := by
    intro n
    induction n with
    | zero => intro y hl; exact (lp_0 hl).elim
    | succ n ih =>
      intro y hl h p h1 h2
      rw [f_isOccupied_L2] at h
      split at h
      · rename_i c
        have q := i_le.mp c
        have := h2.2
        omega
      · rename_i c
        have hlt : y.toInt < 8 := lt_nle c hw.1.2
        split at h
        · rename_i c2
          by_cases e : p.toInt = y.toInt
          · rw [Int32.toInt_inj.mp e]
            exact c2
          · have e1 := i_add1 (x := y) (by have := hl.1; omega) (by omega)
            exact ih _ (lp_s hl hlt) h p (by omega) h2
        · exact absurd h (by decide)
  exact fun p hp => key 128 0 (lp_z (by decide)) h p hp.1 hp
theorem bits7 : ∀ j, j < 8 → (3 : Int32) ≤ f_bitCount (nI j) → nI j = 7 := by decide +kernel
theorem bars_0 {σ : St} {g : Int32} (h : IV σ) (hg : vp_in g 6) (hb : f_whatBars σ g = 0) : OK4 σ g ∧ RG σ g := by
  obtain ⟨hw, hs, -, -⟩ := h
  unfold f_whatBars at hb
  split at hb
  · rename_i c1
    split at hb
    · rename_i c2
      split at hb
      · rename_i c3
        split at hb
        · rename_i c4
          split at hb
          · split at hb
            · split at hb
              · split at hb
                · split at hb
                  · exact absurd hb (by decide)
                  · split at hb
                    · rename_i c5
                      refine ⟨⟨?_, ?_, c2, c1⟩, occ_0 hw c5⟩
                      · have b4 := (hs _ (ix_lt hg)).1
                        have q := i_le.mp c3
                        rw [show (4 : Int32).toInt = 4 from rfl] at q
                        apply Int32.toInt_inj.mp
                        rw [show (4 : Int32).toInt = 4 from rfl]
                        have := b4.2
                        omega
                      · obtain ⟨j, hj, e⟩ := bd_nI (hs _ (ix_lt hg)).2 (by omega)
                        rw [e] at c4 ⊢
                        exact bits7 j hj c4
                    · exact absurd hb (by decide)
                · exact absurd hb (by decide)
              · exact absurd hb (by decide)
            · exact absurd hb (by decide)
          · exact absurd hb (by decide)
        · exact absurd hb (by decide)
      · exact absurd hb (by decide)
    · exact absurd hb (by decide)
  · exact absurd hb (by decide)
/-- what the law's calls do to a ledger: all is well behind each, counts stay, uses only fall -/
def US (σ τ : St) : Prop := (τ.1 0 3 = σ.1 0 3 ∧ τ.1 0 4 = σ.1 0 4 ∧ τ.1 0 5 = σ.1 0 5) ∧ ∀ k, k < 12 → (τ.1 (22 + k) 2).toInt ≤ (σ.1 (22 + k) 2).toInt
theorem US.q {σ τ : St} (h : IV σ) (q : Q σ τ) : US σ τ := ⟨⟨q.1.1, q.1.2.1, q.1.2.2.1⟩, fun k hk => ((q.2.2.2.2.2.2 k hk).2 (h.2.2.2 k hk)).2⟩
theorem US.trans {σ τ ρ : St} (a : US σ τ) (b : US τ ρ) : US σ ρ := ⟨⟨b.1.1.trans a.1.1, b.1.2.1.trans a.1.2.1, b.1.2.2.trans a.1.2.2⟩, fun k hk => Int.le_trans (b.2 k hk) (a.2 k hk)⟩
theorem US.up {σ : St} {c k : Nat} {v : Int32} (h0 : c = 0 → k ≠ 3 ∧ k ≠ 4 ∧ k ≠ 5) (h : 22 ≤ c → c < 34 → k ≠ 2) : US σ (up σ c k v) := by
  refine ⟨⟨up_o ?_, up_o ?_, up_o ?_⟩, fun j hj => ?_⟩
  · rintro ⟨rfl, rfl⟩; exact (h0 rfl).1 rfl
  · rintro ⟨rfl, rfl⟩; exact (h0 rfl).2.1 rfl
  · rintro ⟨rfl, rfl⟩; exact (h0 rfl).2.2 rfl
  · rw [up_o (by rintro ⟨rfl, rfl⟩; exact h (by omega) (by omega) rfl)]
    exact Int.le_refl _
theorem Q_rehearse {σ : St} {g : Int32} (hw : WF σ) (hs : bd (σ.1 (34 + g.toNatClampNeg) 4) 4) (hg : vp_in g 6) (h0 : σ.1 (34 + g.toNatClampNeg) 8 = 0) : Q σ (f_rehearse σ g).2 := by
  have hi := ix_lt (WF.gp hw hg)
  have h3 : bd (3 : Int32) 1000 := ⟨by decide, by decide⟩
  have hb : bd (if ((σ.1 (34 + g.toNatClampNeg) 4) + (1 : Int32)) < (4 : Int32) then ((σ.1 (34 + g.toNatClampNeg) 4) + (1 : Int32)) else (4 : Int32)) 4 := by
    have e := i_add1 (x := σ.1 (34 + g.toNatClampNeg) 4) (by have := hs.1; omega) (by have := hs.2; omega)
    split
    · rename_i c
      have q := i_lt.mp c
      rw [show (4 : Int32).toInt = 4 from rfl] at q
      exact ⟨by rw [e]; have := hs.1; omega, by omega⟩
    · exact ⟨by decide, by decide⟩
  unfold f_rehearse
  generalize (if ((σ.1 (34 + g.toNatClampNeg) 4) + (1 : Int32)) < (4 : Int32) then ((σ.1 (34 + g.toNatClampNeg) 4) + (1 : Int32)) else (4 : Int32)) = nx at hb ⊢
  split
  · dsimp only
    have q1 : Q σ (up σ (34 + g.toNatClampNeg) 4 (0 : Int32)) := Q_down g.toNatClampNeg (fun a b _ h => up_o (by omega)) (by rw [up_o (by omega)]; exact h0) (fun _ => by rw [up_s]; exact bd0 4) (fun h => by rw [up_o (by omega)]; exact h)
    exact ((q1.trans (Q_loseSignatures _ g)).trans (Q_addMiss _ _)).trans (Q_tire hi h3)
  · dsimp only
    have q1 : Q σ (up σ (34 + g.toNatClampNeg) 4 nx) := by
      refine Q_down g.toNatClampNeg (fun a b _ h => up_o (by omega)) (by rw [up_o (by omega)]; exact h0) (fun _ => ?_) (fun h => by rw [up_o (by omega)]; exact h)
      rw [up_s]
      exact hb
    exact q1.trans (Q_tire hi h3)
theorem or7 : ∀ j, j < 8 → ∀ i, i < 3 → bd (nI j ||| ((1 : Int32) <<< (nI i &&& (31 : Int32)))) 7 := by unfold bd; decide +kernel
theorem Q_sign {σ : St} {g k : Int32} (hs : bd (σ.1 (34 + g.toNatClampNeg) 5) 7) (hk : vp_in k 3) (h0 : σ.1 (34 + g.toNatClampNeg) 8 = 0) : Q σ (f_sign σ g k).2 := by
  show Q σ (up σ _ 5 _)
  refine Q_down g.toNatClampNeg (fun a b _ h => up_o (by omega)) (by rw [up_o (by omega)]; exact h0) (fun h => by rw [up_o (by omega)]; exact h) (fun _ => ?_)
  rw [up_s]
  obtain ⟨j, hj, e⟩ := bd_nI hs (by omega)
  obtain ⟨i, hi, e2⟩ := vp_in_of hk (by omega)
  rw [e, e2]
  exact or7 j hj i hi
theorem Q_take {σ : St} {g : Int32} (hw : WF σ) (hg : vp_in g 6) : Q σ (f_take σ g).2 := by
  have q1 : Q σ (up (up (up σ (34 + g.toNatClampNeg) 8 (0 : Int32)) (34 + g.toNatClampNeg) 5 (0 : Int32)) (34 + g.toNatClampNeg) 4 (3 : Int32)) := by
    refine Q_down g.toNatClampNeg (fun a b _ h => by rw [up_o (by omega), up_o (by omega), up_o (by omega)]) (by rw [up_o (by omega), up_o (by omega), up_s]) (fun _ => by rw [up_s]; exact ⟨by decide, by decide⟩) (fun _ => by rw [up_o (by omega), up_s]; exact bd0 7)
  unfold f_take
  dsimp only
  generalize up (up (up σ (34 + g.toNatClampNeg) 8 (0 : Int32)) (34 + g.toNatClampNeg) 5 (0 : Int32)) (34 + g.toNatClampNeg) 4 (3 : Int32) = σ3 at q1 ⊢
  have q2 : Q σ (up σ3 (34 + g.toNatClampNeg) 7 ((σ3.1 (34 + g.toNatClampNeg) 7) + (1 : Int32))) := q1.trans (Q_irr (by unfold Rel; omega))
  generalize up σ3 (34 + g.toNatClampNeg) 7 ((σ3.1 (34 + g.toNatClampNeg) 7) + (1 : Int32)) = σ4 at q2 ⊢
  have q3 : Q σ (up σ4 0 12 ((σ4.1 0 12) + (1 : Int32))) := q2.trans (Q_irr (by unfold Rel; omega))
  generalize up σ4 0 12 ((σ4.1 0 12) + (1 : Int32)) = σ5 at q3 ⊢
  have q4 : Q σ (upL σ5 (σ5.2 + (f_marginOf σ g).toInt64)) := q3.trans Q_L
  generalize upL σ5 (σ5.2 + (f_marginOf σ g).toInt64) = σ6 at q4 ⊢
  have w6 := hw.q q4
  split
  · dsimp only
    have q5 := q4.trans (Q_useKitOf w6 g)
    exact q5.trans (Q_payFor (hw.q q5) hg)
  · dsimp only
    have q5 := q4.trans (Q_hurt w6 (WF.gp w6 hg))
    have q6 := q5.trans (Q_useKitOf (hw.q q5) g)
    exact q6.trans (Q_payFor (hw.q q6) hg)
theorem Q_skill {σ : St} {p k v : Int32} (hp : vp_in p 8) : Q σ (f_skill σ p k v).2 := Q_irr (by have h9 : p.toNatClampNeg < 8 := ix_lt hp; unfold Rel; omega)
theorem Q_pass {σ : St} {d : Int32} (hw : WF σ) : Q σ (f_pass σ d).2 := by
  have key : ∀ (n : Nat) (σ : St) (y : Int32), WF σ → Q σ (f_pass_L26 d n σ y).2 := by
    intro n
    induction n with
    | zero => intro σ y _; exact Q.refl σ
    | succ n ih =>
      intro σ y hw
      rw [f_pass_L26]
      split
      · exact Q.refl σ
      · have q := Q_passOneDay hw
        exact q.trans (ih _ _ (hw.q q))
  exact key 128 σ 0 hw
theorem inv_arm {σ : St} {g : Int32} (h : INV σ) (hg : inr g (σ.1 0 5)) : INV (f_arm σ g).2 ∧ US σ (f_arm σ g).2 := by
  have hw := h.1.1
  have hg6 := WF.g6 hw hg
  have key : ∀ v : Int32, b01 v → (v = 0 ∨ (OK4 σ g ∧ RG σ g)) → INV (up σ (34 + g.toNatClampNeg) 8 v) ∧ US σ (up σ (34 + g.toNatClampNeg) 8 v) := by
    intro v hv ho
    refine ⟨⟨⟨wf_G hw (fun z => absurd z (by decide)) (fun z => absurd z (by decide)) (fun z => absurd z (by decide)) (fun _ => hv), fun i hi => ?_, fun p hp => ?_, fun k hk => ?_⟩, fun i hi => ?_⟩, US.up (fun z => absurd z (by omega)) (fun _ z => absurd z (by omega))⟩
    · rw [up_o (by omega), up_o (by omega)]; exact h.1.2.1 i hi
    · rw [up_o (by omega)]; exact h.1.2.2.1 p hp
    · rw [up_o (by omega)]; exact h.1.2.2.2 k hk
    · rw [up_o (by omega)] at hi
      have hi6 := WF.g6 hw hi
      have oc : (OK4 σ i ∧ RG σ i) → OK4 (up σ (34 + g.toNatClampNeg) 8 v) i ∧ RG (up σ (34 + g.toNatClampNeg) 8 v) i := OK_congr hw hi6 (fun a b hr => up_o (by unfold ROK at hr; omega))
      by_cases e : i.toNatClampNeg = g.toNatClampNeg
      · have e2 := ix_inj hi.1 hg.1 e
        subst e2
        rw [up_s]
        rcases ho with z | z
        · exact Or.inl z
        · exact Or.inr (oc z)
      · rcases h.2 i hi with z | z
        · left; rw [up_o (by omega)]; exact z
        · exact Or.inr (oc z)
  unfold f_arm
  split
  · rename_i c
    exact key 1 (Or.inr rfl) (Or.inr (bars_0 h.1 hg6 c))
  · exact key 0 (Or.inl rfl) (Or.inl rfl)
theorem inv_no {σ : St} {p g b : Int32} (h : INV σ) (hg : inr g (σ.1 0 5)) : INV (f_no σ p g b).2 ∧ US σ (f_no σ p g b).2 := by
  have hw := h.1.1
  have hg6 := WF.g6 hw hg
  have wk : ∀ v : Int32, IV (up σ (34 + g.toNatClampNeg) 6 v) := by
    intro v
    refine ⟨wf_G hw (fun z => absurd z (by decide)) (fun z => absurd z (by decide)) (fun z => absurd z (by decide)) (fun z => absurd z (by decide)), fun i hi => ?_, fun p hp => ?_, fun k hk => ?_⟩
    · rw [up_o (by omega), up_o (by omega)]; exact h.1.2.1 i hi
    · rw [up_o (by omega)]; exact h.1.2.2.1 p hp
    · rw [up_o (by omega)]; exact h.1.2.2.2 k hk
  have us : ∀ v : Int32, US σ (up σ (34 + g.toNatClampNeg) 6 v) := fun v => US.up (fun z => absurd z (by omega)) (fun _ z => absurd z (by omega))
  have oth : ∀ (v : Int32) (i : Int32), inr i (σ.1 0 5) → i.toNatClampNeg ≠ g.toNatClampNeg → (up σ (34 + g.toNatClampNeg) 6 v).1 (34 + i.toNatClampNeg) 8 = 0 ∨ (OK4 (up σ (34 + g.toNatClampNeg) 6 v) i ∧ RG (up σ (34 + g.toNatClampNeg) 6 v) i) := by
    intro v i hi e
    rcases h.2 i hi with z | z
    · left; rw [up_o (by omega)]; exact z
    · exact Or.inr (OK_congr hw (WF.g6 hw hi) (fun a b hr => up_o (by unfold ROK at hr; omega)) z)
  unfold f_no
  split
  · refine ⟨⟨wk _, fun i hi => ?_⟩, us _⟩
    dsimp only at hi ⊢
    rw [up_o (by omega)] at hi
    by_cases e : i.toNatClampNeg = g.toNatClampNeg
    · have e2 := ix_inj hi.1 hg.1 e
      subst e2
      rcases h.2 i hi with z | z
      · left; rw [up_o (by omega)]; exact z
      · refine Or.inr (OK_congr hw (WF.g6 hw hi) (fun a b hr => ?_) z)
        by_cases q : a = 34 + i.toNatClampNeg ∧ b = 6
        · obtain ⟨rfl, rfl⟩ := q
          rw [up_s, z.1.2.2.1]
          simp
        · exact up_o q
    · exact oth _ i hi e
  · dsimp only
    have q := Q_standDown (up σ (34 + g.toNatClampNeg) 6 ((σ.1 (34 + g.toNatClampNeg) 6) ||| ((1 : Int32) <<< (p &&& (31 : Int32))))) g
    refine ⟨⟨(wk _).q q, fun i hi => ?_⟩, (us _).trans (US.q (wk _) q)⟩
    rw [q.1.2.2.1, up_o (by omega)] at hi
    by_cases e : i.toNatClampNeg = g.toNatClampNeg
    · left; rw [e]; exact sd_s
    · have hi2 : inr i ((up σ (34 + g.toNatClampNeg) 6 ((σ.1 (34 + g.toNatClampNeg) 6) ||| ((1 : Int32) <<< (p &&& (31 : Int32))))).1 0 5) := by rw [up_o (by omega)]; exact hi
      rcases oth _ i hi e with z | z
      · left
        rcases q.2.2.1 _ (ix_lt (WF.g6 hw hi)) with w | ⟨w, -, -⟩
        · exact w
        · exact w.trans z
      · rcases OK4.q (wk _).1 q hi2 z.1 with w | w
        · exact Or.inl w
        · exact Or.inr ⟨w, RG.q (wk _).1 q (WF.g6 hw hi) z.2⟩
end
section
theorem iv_up {σ : St} {c k : Nat} {v : Int32} (h : IV σ) (hw : WF (up σ c k v)) (hg : ¬ (34 ≤ c ∧ (k = 4 ∨ k = 5))) (hp : ¬ (6 ≤ c ∧ c < 14 ∧ k = 6)) (hk : ¬ (22 ≤ c ∧ c < 34 ∧ k = 2)) : IV (up σ c k v) := by
  refine ⟨hw, fun i hi => ?_, fun p hp => ?_, fun k hk => ?_⟩
  · rw [up_o (by omega), up_o (by omega)]; exact h.2.1 i hi
  · rw [up_o (by omega)]; exact h.2.2.1 p hp
  · rw [up_o (by omega)]; exact h.2.2.2 k hk
theorem inv_walk {σ : St} {x pl : Int32} (h : INV σ) (hx : inr x (σ.1 0 3)) : INV (f_walk σ x pl).2 ∧ US σ (f_walk σ x pl).2 := by
  have hw := h.1.1
  have hx8 := WF.p8 hw hx
  have key : ∀ (n : Nat) (σh : St) (y : Int32), WF σh → inr x (σh.1 0 3) → lpI 6 y n → Q σh (f_walk_L30 σ x n σh y).2 ∧ ∀ g : Int32, y.toInt ≤ g.toInt → inr g (σh.1 0 5) → (f_walk_L30 σ x n σh y).2.1 (34 + g.toNatClampNeg) 8 = 0 ∨ f_standsInRing (f_walk_L30 σ x n σh y).2 x g = 0 := by
    intro n
    induction n with
    | zero => intro σh y _ _ hl; exact (lp_0 hl).elim
    | succ n ih =>
      intro σh y hw hxh hl
      rw [f_walk_L30]
      split
      · rename_i c
        refine ⟨Q.refl _, fun g h1 h2 => ?_⟩
        have q := i_le.mp c
        have := h2.2
        omega
      · rename_i c
        have hlt : y.toInt < 6 := lt_nle c hw.2.2.1.2
        have hs := lp_s hl hlt
        have hy := lp_i hl hlt
        have e1 := i_add1 (x := y) (by have := hl.1; omega) (by omega)
        split
        · rename_i c2
          obtain ⟨q, r⟩ := ih σh _ hw hxh hs
          refine ⟨q, fun g h1 h2 => ?_⟩
          by_cases e : g.toInt = y.toInt
          · rw [Int32.toInt_inj.mp e]
            rcases q.2.2.1 _ (ix_lt hy) with k | ⟨k, -, -⟩
            · exact Or.inl k
            · exact Or.inl (k.trans c2)
          · exact r g (by omega) h2
        · split
          · rename_i c2 c3
            obtain ⟨q, r⟩ := ih σh _ hw hxh hs
            refine ⟨q, fun g h1 h2 => ?_⟩
            by_cases e : g.toInt = y.toInt
            · rw [Int32.toInt_inj.mp e]
              right
              rw [ring_q q hy (WF.p8 hw hxh)]
              exact c3
            · exact r g (by omega) h2
          · dsimp only
            have q1 := Q_standDown σh y
            have q2 : Q (f_standDown σh y) (f_addMiss (f_standDown σh y) ((f_standDown σh y).1 (34 + y.toNatClampNeg) 0)) := Q_addMiss _ _
            have s8 : (f_standDown σh y).1 (34 + y.toNatClampNeg) 8 = 0 := sd_s
            generalize f_standDown σh y = σ2 at q1 q2 s8 ⊢
            generalize f_addMiss σ2 (σ2.1 (34 + y.toNatClampNeg) 0) = σ3 at q2 ⊢
            have q12 := q1.trans q2
            obtain ⟨q, r⟩ := ih σ3 _ (hw.q q12) (by rw [q12.1.1]; exact hxh) hs
            refine ⟨q12.trans q, fun g h1 h2 => ?_⟩
            by_cases e : g.toInt = y.toInt
            · rw [Int32.toInt_inj.mp e]
              rcases (q2.trans q).2.2.1 _ (ix_lt hy) with k | ⟨k, -, -⟩
              · exact Or.inl k
              · exact Or.inl (k.trans s8)
            · exact r g (by omega) (by rw [q12.1.2.2.1]; exact h2)
  have i6 : x.toNatClampNeg < 8 := ix_lt hx8
  have hw1 : WF (up σ (6 + x.toNatClampNeg) 5 pl) := wf_up hw (fun h => absurd h (by omega)) (fun h => absurd h (by omega)) (fun h => absurd h (by omega))
  have iv1 : IV (up σ (6 + x.toNatClampNeg) 5 pl) := iv_up h.1 hw1 (by omega) (by omega) (by omega)
  have us1 : US σ (up σ (6 + x.toNatClampNeg) 5 pl) := US.up (fun h => absurd h (by omega)) (fun h => absurd h (by omega))
  obtain ⟨q, r⟩ := key 128 (up σ (6 + x.toNatClampNeg) 5 pl) 0 hw1 (by rw [up_o (by omega)]; exact hx) (lp_z (by decide))
  have ef : f_walk σ x pl = f_walk_L30 σ x 128 (up σ (6 + x.toNatClampNeg) 5 pl) 0 := rfl
  rw [ef]
  generalize (f_walk_L30 σ x 128 (up σ (6 + x.toNatClampNeg) 5 pl) 0).2 = τ at q r ⊢
  refine ⟨⟨iv1.q q, fun g hg => ?_⟩, us1.trans (US.q iv1 q)⟩
  rw [q.1.2.2.1] at hg
  have hg0 : inr g (σ.1 0 5) := by rw [up_o (by omega)] at hg; exact hg
  have hg6 := WF.g6 hw hg0
  rcases h.2 g hg0 with z | ⟨z, zr⟩
  · left
    rcases q.2.2.1 _ (ix_lt hg6) with w | ⟨w, -, -⟩
    · exact w
    · rw [w, up_o (by omega)]; exact z
  · have z1 : OK4 (up σ (6 + x.toNatClampNeg) 5 pl) g := by
      obtain ⟨a, b, c, d⟩ := z
      have e1 : (up σ (6 + x.toNatClampNeg) 5 pl).1 (34 + g.toNatClampNeg) 1 = σ.1 (34 + g.toNatClampNeg) 1 := up_o (by omega)
      exact ⟨by rw [up_o (by omega)]; exact a, by rw [up_o (by omega)]; exact b, by rw [up_o (by omega)]; exact c, by rw [e1, up_o (by omega)]; exact d⟩
    rcases OK4.q hw1 q hg z1 with w | w
    · exact Or.inl w
    · rcases r g hg0.1 hg with k | k
      · exact Or.inl k
      · refine Or.inr ⟨w, fun p hp => ?_⟩
        rw [q.1.1, up_o (by omega)] at hp
        have hp8 := WF.p8 hw hp
        by_cases e : p.toNatClampNeg = x.toNatClampNeg
        · rw [ix_inj hp.1 hx.1 e]
          exact k
        · rw [ring_q q hg6 hp8, ring_congr (σ := σ) (up_o (by omega)) (up_o (by omega)) (up_o (by omega)) (up_o (by omega)) (up_o (by omega)) (up_o (by omega))]
          exact zr p hp
theorem sdo_all {σ : St} (hw : WF σ) : Q σ (f_standDownOccupied σ) ∧ ∀ g : Int32, inr g (σ.1 0 5) → (f_standDownOccupied σ).1 (34 + g.toNatClampNeg) 8 = 0 ∨ RG (f_standDownOccupied σ) g := by
  have key : ∀ (n : Nat) (σ : St) (y : Int32), WF σ → lpI 6 y n → Q σ (f_standDownOccupied_L2 n σ y) ∧ ∀ g : Int32, y.toInt ≤ g.toInt → inr g (σ.1 0 5) → (f_standDownOccupied_L2 n σ y).1 (34 + g.toNatClampNeg) 8 = 0 ∨ RG (f_standDownOccupied_L2 n σ y) g := by
    intro n
    induction n with
    | zero => intro σ y _ hl; exact (lp_0 hl).elim
    | succ n ih =>
      intro σ y hw hl
      rw [f_standDownOccupied_L2]
      split
      · rename_i c
        refine ⟨Q.refl _, fun g h1 h2 => ?_⟩
        have q := i_le.mp c
        have := h2.2
        omega
      · rename_i c
        have hlt : y.toInt < 6 := lt_nle c hw.2.2.1.2
        have hs := lp_s hl hlt
        have hy := lp_i hl hlt
        have e1 := i_add1 (x := y) (by have := hl.1; omega) (by omega)
        split
        · rename_i c2
          obtain ⟨q, r⟩ := ih σ _ hw hs
          refine ⟨q, fun g h1 h2 => ?_⟩
          by_cases e : g.toInt = y.toInt
          · rw [Int32.toInt_inj.mp e]
            exact Or.inr (RG.q hw q hy (occ_0 hw c2))
          · exact r g (by omega) h2
        · dsimp only
          have q1 := Q_standDown σ y
          have s8 : (f_standDown σ y).1 (34 + y.toNatClampNeg) 8 = 0 := sd_s
          generalize f_standDown σ y = σ2 at q1 s8 ⊢
          obtain ⟨q, r⟩ := ih σ2 _ (hw.q q1) hs
          refine ⟨q1.trans q, fun g h1 h2 => ?_⟩
          by_cases e : g.toInt = y.toInt
          · rw [Int32.toInt_inj.mp e]
            rcases q.2.2.1 _ (ix_lt hy) with k | ⟨k, -, -⟩
            · exact Or.inl k
            · exact Or.inl (k.trans s8)
          · exact r g (by omega) (by rw [q1.1.2.2.1]; exact h2)
  obtain ⟨q, r⟩ := key 128 σ 0 hw (lp_z (by decide))
  exact ⟨q, fun g hg => r g hg.1 hg⟩
theorem inv_weather {σ : St} {w b : Int32} (h : INV σ) (hwd : (0 : Int32).toInt ≤ w.toInt ∧ w.toInt ≤ (9 : Int32).toInt) : INV (f_weather σ w b).2 ∧ US σ (f_weather σ w b).2 := by
  have hw := h.1.1
  have key : ∀ (n : Nat) (σh : St) (y : Int32), WF σh → lpI 6 y n → ∃ τ, Q σh τ ∧ (f_weather_L25 σ n σh y).2 = f_standDownOccupied τ := by
    intro n
    induction n with
    | zero => intro σh y _ hl; exact (lp_0 hl).elim
    | succ n ih =>
      intro σh y hw hl
      rw [f_weather_L25]
      split
      · exact ⟨σh, Q.refl _, rfl⟩
      · rename_i c
        have hlt : y.toInt < 6 := lt_nle c hw.2.2.1.2
        have hs := lp_s hl hlt
        have q1 := Q_standDown σh y
        split
        · split
          · exact ih σh _ hw hs
          · obtain ⟨τ, q, e⟩ := ih (f_standDown σh y) _ (hw.q q1) hs
            exact ⟨τ, q1.trans q, e⟩
        · obtain ⟨τ, q, e⟩ := ih (f_standDown σh y) _ (hw.q q1) hs
          exact ⟨τ, q1.trans q, e⟩
  have w1 : WF (up σ 0 9 w) := wf_M9 hw hwd
  have iv1 : IV (up σ 0 9 w) := iv_up h.1 w1 (by omega) (by omega) (by omega)
  have w2 : WF (up (up σ 0 9 w) 0 10 b) := wf_up w1 (fun _ => by decide) (fun h => absurd h (by decide)) (fun h => absurd h (by decide))
  have iv2 : IV (up (up σ 0 9 w) 0 10 b) := iv_up iv1 w2 (by omega) (by omega) (by omega)
  have us2 : US σ (up (up σ 0 9 w) 0 10 b) := (US.up (fun _ => by decide) (fun h => absurd h (by decide))).trans (US.up (fun _ => by decide) (fun h => absurd h (by decide)))
  have e2 : ∀ a d, ¬ (a = 0 ∧ (d = 9 ∨ d = 10)) → (up (up σ 0 9 w) 0 10 b).1 a d = σ.1 a d := fun a d hn => by rw [up_o (by omega), up_o (by omega)]
  have ef : f_weather σ w b = f_weather_L25 σ 128 (up (up σ 0 9 w) 0 10 b) 0 := rfl
  rw [ef]
  obtain ⟨τ, q, e⟩ := key 128 (up (up σ 0 9 w) 0 10 b) 0 w2 (lp_z (by decide))
  rw [e]
  generalize up (up σ 0 9 w) 0 10 b = σ2 at iv2 us2 e2 q w2
  have wτ := w2.q q
  obtain ⟨q2, r⟩ := sdo_all wτ
  have qq := q.trans q2
  refine ⟨⟨iv2.q qq, fun g hg => ?_⟩, us2.trans (US.q iv2 qq)⟩
  rw [qq.1.2.2.1] at hg
  have hg0 : inr g (σ.1 0 5) := by rw [e2 _ _ (by omega)] at hg; exact hg
  have hg6 := WF.g6 hw hg0
  rcases h.2 g hg0 with z | ⟨z, -⟩
  · left
    rcases qq.2.2.1 _ (ix_lt hg6) with w | ⟨w, -, -⟩
    · exact w
    · rw [w, e2 _ _ (by omega)]; exact z
  · have z1 : OK4 σ2 g := by
      obtain ⟨a, b, c, d⟩ := z
      exact ⟨by rw [e2 _ _ (by omega)]; exact a, by rw [e2 _ _ (by omega)]; exact b, by rw [e2 _ _ (by omega)]; exact c, by rw [e2 (34 + g.toNatClampNeg) 1 (by omega), e2 _ _ (by omega)]; exact d⟩
    rcases OK4.q w2 qq hg z1 with k | k
    · exact Or.inl k
    · rcases r g (by rw [q.1.2.2.1]; exact hg) with m | m
      · exact Or.inl m
      · exact Or.inr ⟨k, m⟩
theorem bc_8 {σ : St} {g : Int32} : (f_becomeChanged σ g).1 (34 + g.toNatClampNeg) 8 = 0 := by
  have e : f_becomeChanged σ g = up (f_loseSignatures σ g) (34 + g.toNatClampNeg) 4 (if ((f_loseSignatures σ g).1 (34 + g.toNatClampNeg) 4) < (2 : Int32) then ((f_loseSignatures σ g).1 (34 + g.toNatClampNeg) 4) else (2 : Int32)) := rfl
  rw [e, up_o (by omega), ls_8]
theorem inv_change {σ : St} {g x pl lv : Int32} (h : INV σ) (hg : inr g (σ.1 0 5)) (hx : vp_in x 8) (hl : vp_in lv 31) : INV (f_change σ g x pl lv).2 ∧ US σ (f_change σ g x pl lv).2 := by
  have hw := h.1.1
  have hg6 := WF.g6 hw hg
  have w1 : WF (up σ (34 + g.toNatClampNeg) 1 x) := wf_G1 hw hx
  have iv1 : IV (up σ (34 + g.toNatClampNeg) 1 x) := iv_up h.1 w1 (by omega) (by omega) (by omega)
  have w2 : WF (up (up σ (34 + g.toNatClampNeg) 1 x) (34 + g.toNatClampNeg) 2 pl) := wf_up w1 (fun h => absurd h (by omega)) (fun _ => ⟨by decide, by decide, by decide, fun h => absurd h (by decide)⟩) (fun h h2 => absurd h2 (by omega))
  have iv2 := iv_up iv1 w2 (by omega) (by omega) (by omega)
  have w3 : WF (up (up (up σ (34 + g.toNatClampNeg) 1 x) (34 + g.toNatClampNeg) 2 pl) (34 + g.toNatClampNeg) 3 lv) := wf_G3 w2 hl
  have iv3 := iv_up iv2 w3 (by omega) (by omega) (by omega)
  have us3 : US σ (up (up (up σ (34 + g.toNatClampNeg) 1 x) (34 + g.toNatClampNeg) 2 pl) (34 + g.toNatClampNeg) 3 lv) := ((US.up (fun z => absurd z (by omega)) (fun _ z => absurd z (by omega))).trans (US.up (fun z => absurd z (by omega)) (fun _ z => absurd z (by omega)))).trans (US.up (fun z => absurd z (by omega)) (fun _ z => absurd z (by omega)))
  have e3 : ∀ a d, ¬ (a = 34 + g.toNatClampNeg ∧ (d = 1 ∨ d = 2 ∨ d = 3)) → (up (up (up σ (34 + g.toNatClampNeg) 1 x) (34 + g.toNatClampNeg) 2 pl) (34 + g.toNatClampNeg) 3 lv).1 a d = σ.1 a d := fun a d hn => by rw [up_o (by omega), up_o (by omega), up_o (by omega)]
  have ef : (f_change σ g x pl lv).2 = f_becomeChanged (up (up (up σ (34 + g.toNatClampNeg) 1 x) (34 + g.toNatClampNeg) 2 pl) (34 + g.toNatClampNeg) 3 lv) g := rfl
  rw [ef]
  generalize up (up (up σ (34 + g.toNatClampNeg) 1 x) (34 + g.toNatClampNeg) 2 pl) (34 + g.toNatClampNeg) 3 lv = σ3 at iv3 us3 e3 w3 ⊢
  have q := Q_becomeChanged σ3 g
  refine ⟨⟨iv3.q q, fun i hi => ?_⟩, us3.trans (US.q iv3 q)⟩
  rw [q.1.2.2.1] at hi
  have hi0 : inr i (σ.1 0 5) := by rw [e3 _ _ (by omega)] at hi; exact hi
  have hi6 := WF.g6 hw hi0
  by_cases e : i.toNatClampNeg = g.toNatClampNeg
  · left; rw [e]; exact bc_8
  · rcases h.2 i hi0 with z | z
    · left
      rcases q.2.2.1 _ (ix_lt hi6) with w | ⟨w, -, -⟩
      · exact w
      · rw [w, e3 _ _ (by omega)]; exact z
    · have z3 := OK_congr (τ := σ3) hw hi6 (fun a b hr => e3 _ _ (by unfold ROK at hr; omega)) z
      rcases OK4.q w3 q hi z3.1 with w | w
      · exact Or.inl w
      · exact Or.inr ⟨w, RG.q w3 q hi6 z3.2⟩
def s0 : St := (fun a b => if a = 0 then (if b = 10 then 1 else 0) else if 6 ≤ a ∧ a < 14 ∧ b = 4 then -1 else if 22 ≤ a ∧ a < 34 ∧ (b = 3 ∨ b = 4) then -1 else 0, 0)
/-! the opening: people, gags, kit -/
def PT (σ : St) : Prop := ∀ k : Nat, k < 12 → (σ.1 0 4).toInt ≤ k → σ.1 (22 + k) 4 = -1
def WI (a k g : Int32) (σ : St) : Prop := IV σ ∧ NA σ ∧ PT σ ∧ σ.1 0 3 = a ∧ σ.1 0 4 = k ∧ σ.1 0 5 = g
theorem WI.q {a k g : Int32} {σ τ : St} (h : WI a k g σ) (q : Q σ τ) : WI a k g τ := by
  obtain ⟨h1, h2, h3, h4, h5, h6⟩ := h
  refine ⟨h1.q q, h2.q q, fun j hj hc => ?_, q.1.1.trans h4, q.1.2.1.trans h5, q.1.2.2.1.trans h6⟩
  rw [(q.2.2.2.2.2.2 j hj).1]
  exact h3 j hj (by rw [q.1.2.1] at hc; exact hc)
theorem WI_up {a k g : Int32} {σ : St} {c b : Nat} {v : Int32} (h : WI a k g σ) (hw : WF (up σ c b v)) (h0 : c = 0 → b ≠ 3 ∧ b ≠ 4 ∧ b ≠ 5) (hg : ¬ (34 ≤ c ∧ (b = 4 ∨ b = 5 ∨ b = 8))) (hp : ¬ (6 ≤ c ∧ c < 14 ∧ b = 6)) (hk : ¬ (22 ≤ c ∧ c < 34 ∧ (b = 2 ∨ b = 4))) : WI a k g (up σ c b v) := by
  obtain ⟨h1, h2, h3, h4, h5, h6⟩ := h
  have e3 : (up σ c b v).1 0 3 = σ.1 0 3 := up_o (by rintro ⟨rfl, rfl⟩; exact (h0 rfl).1 rfl)
  have e4 : (up σ c b v).1 0 4 = σ.1 0 4 := up_o (by rintro ⟨rfl, rfl⟩; exact (h0 rfl).2.1 rfl)
  have e5 : (up σ c b v).1 0 5 = σ.1 0 5 := up_o (by rintro ⟨rfl, rfl⟩; exact (h0 rfl).2.2 rfl)
  refine ⟨iv_up h1 hw (by omega) (by omega) (by omega), fun i hi => by rw [up_o (by omega)]; exact h2 i hi, fun j hj hc => ?_, e3.trans h4, e4.trans h5, e5.trans h6⟩
  rw [up_o (by omega)]
  exact h3 j hj (by rw [e4] at hc; exact hc)
end
section
theorem wi_person {a k g x y : Int32} {σ : St} (h : WI a k g σ) (ha : a.toInt < 8) : WI (a + 1) k g (f_person σ x y).2 := by
  have hw := h.1.1
  have ea := h.2.2.2.1
  have hc : (σ.1 0 3).toInt < 8 := by rw [ea]; exact ha
  have h8 : (σ.1 0 3).toNatClampNeg < 8 := ix_lt (vp_to hw.1.1 hc)
  have w1 : WF (up σ (6 + (σ.1 0 3).toNatClampNeg) 1 x) := wf_up hw (fun h => absurd h (by omega)) (fun h => absurd h (by omega)) (fun h => absurd h (by omega))
  have i1 := WI_up h w1 (by omega) (by omega) (by omega) (by omega)
  have w2 : WF (up (up σ (6 + (σ.1 0 3).toNatClampNeg) 1 x) (6 + (σ.1 0 3).toNatClampNeg) 2 y) := wf_up w1 (fun h => absurd h (by omega)) (fun h => absurd h (by omega)) (fun h => absurd h (by omega))
  have i2 := WI_up i1 w2 (by omega) (by omega) (by omega) (by omega)
  have ef : (f_person σ x y).2 = f_standDownOccupied (up (up (up σ (6 + (σ.1 0 3).toNatClampNeg) 1 x) (6 + (σ.1 0 3).toNatClampNeg) 2 y) 0 3 (((up (up σ (6 + (σ.1 0 3).toNatClampNeg) 1 x) (6 + (σ.1 0 3).toNatClampNeg) 2 y).1 0 3) + (1 : Int32))) := rfl
  rw [ef]
  generalize up (up σ (6 + (σ.1 0 3).toNatClampNeg) 1 x) (6 + (σ.1 0 3).toNatClampNeg) 2 y = σ2 at i2 w2 ⊢
  obtain ⟨b1, b2, b3, b4, b5, b6⟩ := i2
  have w3 : WF (up σ2 0 3 ((σ2.1 0 3) + (1 : Int32))) := wf_c3 w2 rfl w2.1.1 (by rw [b4]; exact ha)
  have i3 : WI (a + 1) k g (up σ2 0 3 ((σ2.1 0 3) + (1 : Int32))) := by
    refine ⟨⟨w3, fun i hi => ?_, fun p hp => ?_, fun k hk => ?_⟩, fun i hi => by rw [up_o (by omega)]; exact b2 i hi, fun j hj hc => ?_, by rw [up_s, b4], by rw [up_o (by omega)]; exact b5, by rw [up_o (by omega)]; exact b6⟩
    · rw [up_o (by omega), up_o (by omega)]; exact b1.2.1 i hi
    · rw [up_o (by omega)]; exact b1.2.2.1 p hp
    · rw [up_o (by omega)]; exact b1.2.2.2 k hk
    · rw [up_o (by omega)]; rw [up_o (by omega)] at hc; exact b3 j hj hc
  exact i3.q (Q_standDownOccupied _)
theorem wi_skill {a k g p d v : Int32} {σ : St} (h : WI a k g σ) (hp : vp_in p 8) : WI a k g (f_skill σ p d v).2 := h.q (Q_skill hp)
theorem Q_walk {σ : St} {x : Int32} : ∀ (n : Nat) (σh : St) (y : Int32), Q σh (f_walk_L30 σ x n σh y).2 := by
  intro n
  induction n with
  | zero => intro σh y; exact Q.refl _
  | succ n ih =>
    intro σh y
    rw [f_walk_L30]
    split
    · exact Q.refl _
    · split
      · exact ih _ _
      · split
        · exact ih _ _
        · exact ((Q_standDown σh y).trans (Q_addMiss _ _)).trans (ih _ _)
theorem wi_walk {a k g p d : Int32} {σ : St} (h : WI a k g σ) (hp : vp_in p 8) : WI a k g (f_walk σ p d).2 := by
  have h8 : p.toNatClampNeg < 8 := ix_lt hp
  have w1 : WF (up σ (6 + p.toNatClampNeg) 5 d) := wf_up h.1.1 (fun h => absurd h (by omega)) (fun h => absurd h (by omega)) (fun h => absurd h (by omega))
  exact (WI_up h w1 (by omega) (by omega) (by omega) (by omega)).q (Q_walk _ _ _)
theorem wi_gag {a k g x1 x2 x3 x4 : Int32} {σ : St} (h : WI a k g σ) (hg : g.toInt < 6) (h1 : vp_in x1 4) (h2 : vp_in x2 8) (h4 : vp_in x4 31) : WI a k (g + 1) (f_gag σ x1 x2 x3 x4).2 := by
  have hw := h.1.1
  have eg := h.2.2.2.2.2
  have hc : (σ.1 0 5).toInt < 6 := by rw [eg]; exact hg
  have h6 : (σ.1 0 5).toNatClampNeg < 6 := ix_lt (vp_to hw.2.2.1.1 hc)
  have ef : (f_gag σ x1 x2 x3 x4).2 = up (up (up (up (up σ (34 + (σ.1 0 5).toNatClampNeg) 0 x1) (34 + (σ.1 0 5).toNatClampNeg) 1 x2) (34 + (σ.1 0 5).toNatClampNeg) 2 x3) (34 + (σ.1 0 5).toNatClampNeg) 3 x4) 0 5 (((up (up (up (up σ (34 + (σ.1 0 5).toNatClampNeg) 0 x1) (34 + (σ.1 0 5).toNatClampNeg) 1 x2) (34 + (σ.1 0 5).toNatClampNeg) 2 x3) (34 + (σ.1 0 5).toNatClampNeg) 3 x4).1 0 5) + (1 : Int32)) := rfl
  rw [ef]
  have w1 : WF (up σ (34 + (σ.1 0 5).toNatClampNeg) 0 x1) := wf_G0 hw h1
  have i1 := WI_up h w1 (by omega) (by omega) (by omega) (by omega)
  have w2 : WF (up (up σ (34 + (σ.1 0 5).toNatClampNeg) 0 x1) (34 + (σ.1 0 5).toNatClampNeg) 1 x2) := wf_G1 w1 h2
  have i2 := WI_up i1 w2 (by omega) (by omega) (by omega) (by omega)
  have w3 : WF (up (up (up σ (34 + (σ.1 0 5).toNatClampNeg) 0 x1) (34 + (σ.1 0 5).toNatClampNeg) 1 x2) (34 + (σ.1 0 5).toNatClampNeg) 2 x3) := wf_up w2 (fun h => absurd h (by omega)) (fun _ => ⟨by decide, by decide, by decide, fun h => absurd h (by decide)⟩) (fun h h2 => absurd h2 (by omega))
  have i3 := WI_up i2 w3 (by omega) (by omega) (by omega) (by omega)
  have w4 : WF (up (up (up (up σ (34 + (σ.1 0 5).toNatClampNeg) 0 x1) (34 + (σ.1 0 5).toNatClampNeg) 1 x2) (34 + (σ.1 0 5).toNatClampNeg) 2 x3) (34 + (σ.1 0 5).toNatClampNeg) 3 x4) := wf_G3 w3 h4
  have i4 := WI_up i3 w4 (by omega) (by omega) (by omega) (by omega)
  generalize up (up (up (up σ (34 + (σ.1 0 5).toNatClampNeg) 0 x1) (34 + (σ.1 0 5).toNatClampNeg) 1 x2) (34 + (σ.1 0 5).toNatClampNeg) 2 x3) (34 + (σ.1 0 5).toNatClampNeg) 3 x4 = σ2 at i4 w4 ⊢
  obtain ⟨b1, b2, b3, b4, b5, b6⟩ := i4
  have w5 : WF (up σ2 0 5 ((σ2.1 0 5) + (1 : Int32))) := wf_c5 w4 rfl w4.2.2.1.1 (by rw [b6]; exact hg)
  refine ⟨⟨w5, fun i hi => ?_, fun p hp => ?_, fun k hk => ?_⟩, fun i hi => by rw [up_o (by omega)]; exact b2 i hi, fun j hj hc => ?_, by rw [up_o (by omega)]; exact b4, by rw [up_o (by omega)]; exact b5, by rw [up_s, b6]⟩
  · rw [up_o (by omega), up_o (by omega)]; exact b1.2.1 i hi
  · rw [up_o (by omega)]; exact b1.2.2.1 p hp
  · rw [up_o (by omega)]; exact b1.2.2.2 k hk
  · rw [up_o (by omega)]; rw [up_o (by omega)] at hc; exact b3 j hj hc
theorem wi_kit {a k g x1 x2 x3 : Int32} {σ : St} (h : WI a k g σ) (hk : k.toInt < 12) (h3 : 0 ≤ x3.toInt) : WI a (k + 1) g (f_kit σ x1 x2 x3).2 ∧ (f_kit σ x1 x2 x3).2.1 (22 + k.toNatClampNeg) 4 = -1 := by
  have hw := h.1.1
  have ek := h.2.2.2.2.1
  have hc : (σ.1 0 4).toInt < 12 := by rw [ek]; exact hk
  have h12 : (σ.1 0 4).toNatClampNeg < 12 := ix_lt (vp_to hw.2.1.1 hc)
  have ef : (f_kit σ x1 x2 x3).2 = up (up (up (up σ (22 + (σ.1 0 4).toNatClampNeg) 0 x1) (22 + (σ.1 0 4).toNatClampNeg) 1 x2) (22 + (σ.1 0 4).toNatClampNeg) 2 x3) 0 4 (((up (up (up σ (22 + (σ.1 0 4).toNatClampNeg) 0 x1) (22 + (σ.1 0 4).toNatClampNeg) 1 x2) (22 + (σ.1 0 4).toNatClampNeg) 2 x3).1 0 4) + (1 : Int32)) := rfl
  rw [ef]
  have w1 : WF (up σ (22 + (σ.1 0 4).toNatClampNeg) 0 x1) := wf_up hw (fun h => absurd h (by omega)) (fun h => absurd h (by omega)) (fun _ _ => by decide)
  have i1 := WI_up h w1 (by omega) (by omega) (by omega) (by omega)
  have w2 : WF (up (up σ (22 + (σ.1 0 4).toNatClampNeg) 0 x1) (22 + (σ.1 0 4).toNatClampNeg) 1 x2) := wf_up w1 (fun h => absurd h (by omega)) (fun h => absurd h (by omega)) (fun _ _ => by decide)
  have i2 := WI_up i1 w2 (by omega) (by omega) (by omega) (by omega)
  have w3 : WF (up (up (up σ (22 + (σ.1 0 4).toNatClampNeg) 0 x1) (22 + (σ.1 0 4).toNatClampNeg) 1 x2) (22 + (σ.1 0 4).toNatClampNeg) 2 x3) := wf_up w2 (fun h => absurd h (by omega)) (fun h => absurd h (by omega)) (fun _ _ => by decide)
  rw [ek] at h12 w1 w2 w3 i1 i2 ⊢
  generalize up (up σ (22 + k.toNatClampNeg) 0 x1) (22 + k.toNatClampNeg) 1 x2 = σ2 at i2 w2 w3 ⊢
  obtain ⟨b1, b2, b3, b4, b5, b6⟩ := i2
  have e5 : (up σ2 (22 + k.toNatClampNeg) 2 x3).1 0 4 = σ2.1 0 4 := up_o (by omega)
  have w5 : WF (up (up σ2 (22 + k.toNatClampNeg) 2 x3) 0 4 (((up σ2 (22 + k.toNatClampNeg) 2 x3).1 0 4) + (1 : Int32))) := wf_c4 w3 rfl w3.2.1.1 (by rw [e5, b5]; exact hk)
  have e1 : (k + 1).toInt = k.toInt + 1 := i_add1 (by have := w2.2.1.1; rw [b5] at this; omega) (by omega)
  refine ⟨⟨⟨w5, fun i hi => ?_, fun p hp => ?_, fun j hj => ?_⟩, fun i hi => by rw [up_o (by omega), up_o (by omega)]; exact b2 i hi, fun j hj hc => ?_, by rw [up_o (by omega), up_o (by omega)]; exact b4, by rw [up_s, e5, b5], by rw [up_o (by omega), up_o (by omega)]; exact b6⟩, ?_⟩
  · rw [up_o (by omega), up_o (by omega), up_o (by omega), up_o (by omega)]; exact b1.2.1 i hi
  · rw [up_o (by omega), up_o (by omega)]; exact b1.2.2.1 p hp
  · rw [up_o (by omega)]
    by_cases e : j = k.toNatClampNeg
    · subst e; rw [up_s]; exact h3
    · rw [up_o (by omega)]; exact b1.2.2.2 j hj
  · rw [up_o (by omega), up_o (by omega)]
    rw [up_s, e5, b5, e1] at hc
    exact b3 j hj (by rw [b5]; omega)
  · rw [up_o (by omega), up_o (by omega)]
    refine b3 _ h12 ?_
    rw [b5, ix_to (by have := w2.2.1.1; rw [b5] at this; exact this)]
    exact Int.le_refl _
theorem wi_put {a k g x1 x2 : Int32} {σ : St} (h : WI a k g σ) (h1 : inr x1 (σ.1 0 4)) (h2 : vp_in x2 6) : WI a k g (f_put σ x1 x2).2 := by
  have hw := h.1.1
  have h12 : x1.toNatClampNeg < 12 := ix_lt (WF.k12 hw h1)
  have w1 : WF (up σ (22 + x1.toNatClampNeg) 4 x2) := wf_K4 hw (Or.inr h2)
  have i1 : WI a k g (up σ (22 + x1.toNatClampNeg) 4 x2) := by
    obtain ⟨b1, b2, b3, b4, b5, b6⟩ := h
    refine ⟨iv_up b1 w1 (by omega) (by omega) (by omega), fun i hi => by rw [up_o (by omega)]; exact b2 i hi, fun j hj hc => ?_, by rw [up_o (by omega)]; exact b4, by rw [up_o (by omega)]; exact b5, by rw [up_o (by omega)]; exact b6⟩
    rw [up_o (by omega)] at hc
    have := ix_to h1.1
    have := h1.2
    rw [up_o (by omega)]
    exact b3 j hj hc
  unfold f_put
  generalize up σ (22 + x1.toNatClampNeg) 4 x2 = σ1 at i1 ⊢
  dsimp only
  split
  · exact i1.q (Q_becomeChanged _ _)
  · exact (i1.q (Q_becomeChanged _ _)).q (Q_becomeChanged _ _)
theorem wi_inspect {a k g x1 : Int32} {σ : St} (h : WI a k g σ) (h1 : inr x1 (σ.1 0 4)) : WI a k g (f_inspect σ x1).2 := by
  have h12 : x1.toNatClampNeg < 12 := ix_lt (WF.k12 h.1.1 h1)
  have w1 : WF (up σ (22 + x1.toNatClampNeg) 3 (σ.1 0 8)) := wf_up h.1.1 (fun h => absurd h (by omega)) (fun h => absurd h (by omega)) (fun _ _ => by decide)
  exact WI_up h w1 (by omega) (by omega) (by omega) (by omega)
theorem wi_s0 : WI 0 0 0 s0 := by
  have z : ∀ a b, a ≠ 0 → ¬ (6 ≤ a ∧ a < 14 ∧ b = 4) → ¬ (22 ≤ a ∧ a < 34 ∧ (b = 3 ∨ b = 4)) → s0.1 a b = 0 := fun a b h0 h1 h2 => by
    show (if a = 0 then _ else if _ then _ else if _ then _ else _) = _
    rw [if_neg h0, if_neg h1, if_neg h2]
  have k4 : ∀ k, k < 12 → s0.1 (22 + k) 4 = -1 := fun k hk => by
    show (if 22 + k = 0 then _ else if _ then _ else if _ then _ else _) = _
    rw [if_neg (by omega), if_neg (by omega), if_pos ⟨by omega, by omega, Or.inr rfl⟩]
  have v0 : ∀ n, 0 < n → vp_in (0 : Int32) n := fun n h => vp_to (by decide) (by rw [show (0 : Int32).toInt = 0 from rfl]; omega)
  refine ⟨⟨⟨⟨by decide, by decide⟩, ⟨by decide, by decide⟩, ⟨by decide, by decide⟩, ⟨by decide, by decide⟩, fun i hi => ?_, fun k hk => Or.inl (k4 k hk)⟩, fun i hi => ?_, fun p hp => ?_, fun k hk => ?_⟩, fun i hi => z _ _ (by omega) (by omega) (by omega), fun k hk _ => k4 k hk, rfl, rfl, rfl⟩
  · rw [z _ 0 (by omega) (by omega) (by omega), z _ 1 (by omega) (by omega) (by omega), z _ 3 (by omega) (by omega) (by omega), z _ 8 (by omega) (by omega) (by omega)]
    exact ⟨v0 4 (by omega), v0 8 (by omega), v0 31 (by omega), Or.inl rfl⟩
  · rw [z _ 4 (by omega) (by omega) (by omega), z _ 5 (by omega) (by omega) (by omega)]
    exact ⟨bd0 4, bd0 7⟩
  · rw [z _ 6 (by omega) (by omega) (by omega)]
    exact bd0 100
  · rw [z _ 2 (by omega) (by omega) (by omega)]
    decide
/-! what the law reads -/
theorem rd_g0 {σ : St} {g : Int32} : f_ofGag σ g 0 = σ.1 (34 + g.toNatClampNeg) 0 := rfl
theorem rd_g1 {σ : St} {g : Int32} : f_ofGag σ g 1 = σ.1 (34 + g.toNatClampNeg) 1 := rfl
theorem rd_g8 {σ : St} {g : Int32} : f_ofGag σ g 8 = σ.1 (34 + g.toNatClampNeg) 4 := rfl
theorem rd_g9 {σ : St} {g : Int32} : f_ofGag σ g 9 = σ.1 (34 + g.toNatClampNeg) 5 := rfl
theorem rd_g10 {σ : St} {g : Int32} : f_ofGag σ g 10 = σ.1 (34 + g.toNatClampNeg) 6 := rfl
theorem rd_g11 {σ : St} {g : Int32} : f_ofGag σ g 11 = f_oneIf (σ.1 (34 + g.toNatClampNeg) 8) := rfl
theorem rd_p7 {σ : St} {p : Int32} : f_ofPerson σ p 7 = σ.1 (6 + p.toNatClampNeg) 6 := rfl
theorem rd_p8 {σ : St} {p : Int32} : f_ofPerson σ p 8 = f_oneIf (σ.1 (6 + p.toNatClampNeg) 3) := rfl
theorem rd_p11 {σ : St} {p : Int32} : f_ofPerson σ p 11 = f_ringsAround σ p := rfl
theorem rd_k2 {σ : St} {k : Int32} : f_ofKit σ k 2 = σ.1 (22 + k.toNatClampNeg) 2 := rfl
theorem rd_m7 {σ : St} : f_many σ 7 = f_armedSet σ := rfl
theorem one_0 {x : Int32} (h : f_oneIf x = 0) : x = 0 := by
  unfold f_oneIf at h
  split at h
  · assumption
  · exact absurd h (by decide)
theorem one_n {x : Int32} (h : ¬ f_oneIf x = 0) : ¬ x = 0 := by
  intro e
  rw [e] at h
  exact h rfl
theorem set_b : ∀ j, j < 8 → ∀ i, i < 3 → ((nI j >>> (nI i &&& (31 : Int32))) &&& (1 : Int32)) = 0 → f_isInSet (nI j) (nI i) = 0 := by decide +kernel
theorem set_0 {x k : Int32} (hx : bd x 7) (hk : vp_in k 3) (h : ((x >>> (k &&& (31 : Int32))) &&& (1 : Int32)) = 0) : f_isInSet x k = 0 := by
  obtain ⟨j, hj, rfl⟩ := bd_nI hx (by omega)
  obtain ⟨i, hi, rfl⟩ := vp_in_of hk (by omega)
  exact set_b j hj i hi h
theorem ra_bit {σ : St} {p k : Int32} (hc : σ.1 0 5 = 4) (hk : vp_in k 4) (h : f_standsInRing σ p k = 0) : ¬ ((f_ringsAround σ p >>> (k &&& (31 : Int32))) &&& (1 : Int32)) = 1 := by
  have step : ∀ (n : Nat) (y acc : Int32), ¬ (4 : Int32) ≤ y → f_ringsAround_L4 σ p (n + 1) y acc = if f_standsInRing σ p y = 0 then f_ringsAround_L4 σ p n (y + 1) acc else f_ringsAround_L4 σ p n (y + 1) (acc ||| ((1 : Int32) <<< (y &&& (31 : Int32)))) := by
    intro n y acc hy
    rw [f_ringsAround_L4, hc, if_neg hy]
  have stop : ∀ (n : Nat) (acc : Int32), f_ringsAround_L4 σ p (n + 1) 4 acc = acc := by
    intro n acc
    rw [f_ringsAround_L4, hc, if_pos (by decide)]
  have e : f_ringsAround σ p = f_ringsAround_L4 σ p (123 + 1 + 1 + 1 + 1 + 1) 0 0 := rfl
  have s1 : (0 : Int32) + 1 = 1 := rfl
  have s2 : (1 : Int32) + 1 = 2 := rfl
  have s3 : (2 : Int32) + 1 = 3 := rfl
  have s4 : (3 : Int32) + 1 = 4 := rfl
  have d0 : ¬ (4 : Int32) ≤ 0 := by decide
  have d1 : ¬ (4 : Int32) ≤ 1 := by decide
  have d2 : ¬ (4 : Int32) ≤ 2 := by decide
  have d3 : ¬ (4 : Int32) ≤ 3 := by decide
  obtain ⟨j, hj, rfl⟩ := vp_in_of hk (by omega)
  rw [e]
  have hj4 : j = 0 ∨ j = 1 ∨ j = 2 ∨ j = 3 := by omega
  rcases hj4 with rfl | rfl | rfl | rfl
  · have h : f_standsInRing σ p 0 = 0 := h
    rw [step _ _ _ d0, if_pos h, s1, step _ _ _ d1, s2, step _ _ _ d2, step _ _ _ d2, s3, step _ _ _ d3, step _ _ _ d3, step _ _ _ d3, step _ _ _ d3, s4, stop, stop, stop, stop, stop, stop, stop, stop]
    repeat' split
    all_goals decide
  · have h : f_standsInRing σ p 1 = 0 := h
    rw [step _ _ _ d0, s1, step _ _ _ d1, step _ _ _ d1, if_pos h, if_pos h, s2, step _ _ _ d2, step _ _ _ d2, s3, step _ _ _ d3, step _ _ _ d3, step _ _ _ d3, step _ _ _ d3, s4, stop, stop, stop, stop, stop, stop, stop, stop]
    repeat' split
    all_goals decide
  · have h : f_standsInRing σ p 2 = 0 := h
    rw [step _ _ _ d0, s1, step _ _ _ d1, step _ _ _ d1, s2, step _ _ _ d2, step _ _ _ d2, step _ _ _ d2, step _ _ _ d2, if_pos h, if_pos h, if_pos h, if_pos h, s3, step _ _ _ d3, step _ _ _ d3, step _ _ _ d3, step _ _ _ d3, s4, stop, stop, stop, stop, stop, stop, stop, stop]
    repeat' split
    all_goals decide
  · have h : f_standsInRing σ p 3 = 0 := h
    rw [step _ _ _ d0, s1, step _ _ _ d1, step _ _ _ d1, s2, step _ _ _ d2, step _ _ _ d2, step _ _ _ d2, step _ _ _ d2, s3]
    rw [step _ _ _ d3, step _ _ _ d3, step _ _ _ d3, step _ _ _ d3, step _ _ _ d3, step _ _ _ d3, step _ _ _ d3, step _ _ _ d3, if_pos h, if_pos h, if_pos h, if_pos h, if_pos h, if_pos h, if_pos h, if_pos h, s4, stop, stop, stop, stop, stop, stop, stop, stop]
    repeat' split
    all_goals decide
theorem most_m1 {σ : St} {g : Int32} : ¬ f_mostLevel σ g < -1 := by
  have key : ∀ (n : Nat) (y : Int32), -1 ≤ (f_mostLevel_L14 σ g n y).toInt := by
    intro n
    induction n with
    | zero => intro y; show (-1 : Int) ≤ (0 : Int32).toInt; decide
    | succ n ih =>
      intro y
      rw [f_mostLevel_L14]
      split
      · decide
      · rename_i c
        split
        · exact ih _
        · have := i_nlt c
          rw [show (1 : Int32).toInt = 1 from rfl] at this
          omega
  intro h
  have q := i_lt.mp h
  rw [show (-1 : Int32).toInt = -1 from rfl] at q
  have := key 128 30
  have e : f_mostLevel σ g = f_mostLevel_L14 σ g 128 30 := rfl
  rw [e] at q
  omega
theorem safe_m1 {σ : St} {g : Int32} (hw : WF σ) (hg : vp_in g 6) : ¬ f_safeFrom σ g < -1 := by
  have key : ∀ (n : Nat) (y : Int32), lpI 100 y n → -1 ≤ (f_safeFrom_L23 σ g n y).toInt := by
    intro n
    induction n with
    | zero => intro y hl; exact (lp_0 hl).elim
    | succ n ih =>
      intro y hl
      rw [f_safeFrom_L23]
      split
      · decide
      · rename_i c
        have hlt : y.toInt < 100 := lt_nlt c (by decide)
        split
        · split
          · exact ih _ (lp_s hl hlt)
          · have := hl.1; omega
        · have := hl.1; omega
  intro h
  have q := i_lt.mp h
  rw [show (-1 : Int32).toInt = -1 from rfl] at q
  have := key 128 (f_ringOf σ g + 1) (lp_ring (ring_bd hw hg))
  have e : f_safeFrom σ g = f_safeFrom_L23 σ g 128 (f_ringOf σ g + 1) := rfl
  rw [e] at q
  omega
/-! the law's own numbers -/
def f_below (v n : Int32) : Int32 := (v &&& (2147483647 : Int32)) - (v &&& (2147483647 : Int32)) / n * n
theorem below_in {v n : Int32} {d : Nat} (hn : n = nI d) (h0 : 0 < d) (hd : d < 2 ^ 31) : vp_in (f_below v n) d := by
  obtain ⟨j, hj, e⟩ := pk_andE v (m := (2147483647 : Int32)) 31 (by decide)
  unfold f_below
  rw [e, hn, pk_rem hj h0 hd]
  exact vp_in_nI (Nat.mod_lt _ h0) hd
theorem rem_in {x n : Int32} {d : Nat} (hx : 0 ≤ x.toInt) (hn : n = nI d) (h0 : 0 < d) (hd : d < 2 ^ 31) : vp_in (x - x / n * n) d := by
  have hj : ∃ j, j < 2 ^ 31 ∧ x = nI j := by
    refine nI_of ?_
    intro h
    have := i_lt.mp h
    rw [show (0 : Int32).toInt = 0 from rfl] at this
    omega
  obtain ⟨j, hj, rfl⟩ := hj
  rw [hn, pk_rem hj h0 hd]
  exact vp_in_nI (Nat.mod_lt _ h0) hd
theorem add_to {x y : Int32} (hx : -1000 ≤ x.toInt) (hx2 : x.toInt ≤ 1000) (hy : -1000 ≤ y.toInt) (hy2 : y.toInt ≤ 1000) : (x + y).toInt = x.toInt + y.toInt := by
  rw [Int32.toInt_add]
  rw [Int.bmod_eq_of_le] <;> omega
end
