section
/-! the calls by their kinds -/
/-- the descriptors, each once -/
def dsL : List (String × Nat) := [("()B", 0), ("()I", 0), ("()J", 0), ("()Ljava/lang/String;", 0), ("()V", 0), ("()Z", 0), ("()[B", 0), ("(C)Ljava/lang/AbstractStringBuilder;", 1), ("(C)Ljava/lang/StringBuilder;", 1), ("(C)Z", 1), ("(I)I", 1), ("(I)J", 1), ("(I)LSluiceshelf$Queue;", 1), ("(I)LSluiceshelf$Window;", 1), ("(I)Ljava/lang/AbstractStringBuilder;", 1), ("(I)Ljava/lang/String;", 1), ("(I)Ljava/lang/StringBuilder;", 1), ("(I)V", 1), ("(I)Z", 1), ("(II)I", 2), ("(II)J", 2), ("(II)LSluiceshelf$Window;", 2), ("(II)V", 2), ("(III)I", 3), ("(III)V", 3), ("(IIILjava/util/function/BiFunction;)I", 4), ("(IIJ)Z", 3), ("(IILjava/util/function/BiFunction;)I", 3), ("(IIZI)V", 4), ("(II[B)I", 3), ("(IJ)I", 2), ("(IJ)V", 2), ("(IJ)Z", 2), ("(ILSluiceshelf$Window;)V", 2), ("(ILSluiceshelf$Window;I)LSluiceshelf$Window;", 3), ("(ILjava/lang/String;)V", 2), ("(J)I", 1), ("(J)J", 1), ("(J)Ljava/lang/AbstractStringBuilder;", 1), ("(J)Ljava/lang/String;", 1), ("(J)Ljava/lang/StringBuilder;", 1), ("(J)V", 1), ("(J)Z", 1), ("(JI)I", 2), ("(JI)J", 2), ("(JI)S", 2), ("(JI[B)I", 3), ("(JJ)J", 2), ("(LSluiceshelf$Queue;)V", 1), ("(LSluiceshelf$Row;)LSluiceshelf$Window;", 1), ("(LSluiceshelf$Row;)Z", 1), ("(LSluiceshelf$Row;IIZ)V", 4), ("(LSluiceshelf$Window;I)V", 2), ("(LSluiceshelf;IIILSluiceshelfLaw$Out;)I", 5), ("(LSluiceshelf;IILSluiceshelfLaw$Out;)I", 4), ("(LSluiceshelf;ILSluiceshelfLaw$Out;)I", 3), ("(LSluiceshelf;LSluiceshelfLaw$Out;)I", 2), ("(LSluiceshelfModel$Pane;)I", 1), ("(LSluiceshelfModel$Pane;)V", 1), ("(LSluiceshelfModel$Pane;I)Z", 2), ("(LSluiceshelfModel$Pane;II)LSluiceshelfModel$Pane;", 3), ("(Ljava/lang/AbstractStringBuilder;Ljava/lang/Void;)V", 2), ("(Ljava/lang/String;)Ljava/lang/AbstractStringBuilder;", 1), ("(Ljava/lang/String;)Ljava/lang/StringBuilder;", 1), ("(Ljava/lang/String;)V", 1), ("(Ljava/lang/StringBuilder;)V", 1), ("(Z)LSluiceshelf$Window;", 1), ("(Z)Z", 1), ("(ZZ)Z", 2), ("(ZZZ)Z", 3), ("([BI)[B", 2), ("([BIB)V", 3), ("([BII)V", 3), ("([BII)[B", 3), ("([BIIB)V", 4), ("([I)Z", 1), ("([J)V", 1)]
def tb_q (q : Nat) : Nat := cond (Nat.blt q 329) (cond (Nat.blt q 164) (cond (Nat.blt q 82) (cond (Nat.blt q 41) (cond (Nat.blt q 20) (cond (Nat.blt q 10) (cond (Nat.blt q 5) (cond (Nat.blt q 2) (cond (Nat.blt q 1) 4 10) (cond (Nat.blt q 3) 10 (cond (Nat.blt q 4) 1 10))) (cond (Nat.blt q 7) (cond (Nat.blt q 6) 51 4) (cond (Nat.blt q 8) 1 (cond (Nat.blt q 9) 1 1)))) (cond (Nat.blt q 15) (cond (Nat.blt q 12) (cond (Nat.blt q 11) 1 5) (cond (Nat.blt q 13) 5 (cond (Nat.blt q 14) 41 2))) (cond (Nat.blt q 17) (cond (Nat.blt q 16) 4 4) (cond (Nat.blt q 18) 4 (cond (Nat.blt q 19) 11 32))))) (cond (Nat.blt q 30) (cond (Nat.blt q 25) (cond (Nat.blt q 22) (cond (Nat.blt q 21) 4 10) (cond (Nat.blt q 23) 4 (cond (Nat.blt q 24) 4 5))) (cond (Nat.blt q 27) (cond (Nat.blt q 26) 50 5) (cond (Nat.blt q 28) 5 (cond (Nat.blt q 29) 76 11)))) (cond (Nat.blt q 35) (cond (Nat.blt q 32) (cond (Nat.blt q 31) 32 51) (cond (Nat.blt q 33) 1 (cond (Nat.blt q 34) 5 11))) (cond (Nat.blt q 38) (cond (Nat.blt q 36) 32 (cond (Nat.blt q 37) 2 42)) (cond (Nat.blt q 39) 17 (cond (Nat.blt q 40) 17 4)))))) (cond (Nat.blt q 61) (cond (Nat.blt q 51) (cond (Nat.blt q 46) (cond (Nat.blt q 43) (cond (Nat.blt q 42) 4 4) (cond (Nat.blt q 44) 4 (cond (Nat.blt q 45) 4 4))) (cond (Nat.blt q 48) (cond (Nat.blt q 47) 4 66) (cond (Nat.blt q 49) 21 (cond (Nat.blt q 50) 5 50)))) (cond (Nat.blt q 56) (cond (Nat.blt q 53) (cond (Nat.blt q 52) 4 4) (cond (Nat.blt q 54) 41 (cond (Nat.blt q 55) 1 3))) (cond (Nat.blt q 58) (cond (Nat.blt q 57) 36 4) (cond (Nat.blt q 59) 23 (cond (Nat.blt q 60) 23 10))))) (cond (Nat.blt q 71) (cond (Nat.blt q 66) (cond (Nat.blt q 63) (cond (Nat.blt q 62) 10 19) (cond (Nat.blt q 64) 15 (cond (Nat.blt q 65) 19 19))) (cond (Nat.blt q 68) (cond (Nat.blt q 67) 23 23) (cond (Nat.blt q 69) 10 (cond (Nat.blt q 70) 10 10)))) (cond (Nat.blt q 76) (cond (Nat.blt q 73) (cond (Nat.blt q 72) 1 10) (cond (Nat.blt q 74) 19 (cond (Nat.blt q 75) 19 10))) (cond (Nat.blt q 79) (cond (Nat.blt q 77) 10 (cond (Nat.blt q 78) 18 18)) (cond (Nat.blt q 80) 19 (cond (Nat.blt q 81) 15 19))))))) (cond (Nat.blt q 123) (cond (Nat.blt q 102) (cond (Nat.blt q 92) (cond (Nat.blt q 87) (cond (Nat.blt q 84) (cond (Nat.blt q 83) 19 1) (cond (Nat.blt q 85) 10 (cond (Nat.blt q 86) 1 1))) (cond (Nat.blt q 89) (cond (Nat.blt q 88) 1 1) (cond (Nat.blt q 90) 10 (cond (Nat.blt q 91) 3 19)))) (cond (Nat.blt q 97) (cond (Nat.blt q 94) (cond (Nat.blt q 93) 19 19) (cond (Nat.blt q 95) 19 (cond (Nat.blt q 96) 23 19))) (cond (Nat.blt q 99) (cond (Nat.blt q 98) 10 19) (cond (Nat.blt q 100) 1 (cond (Nat.blt q 101) 10 10))))) (cond (Nat.blt q 112) (cond (Nat.blt q 107) (cond (Nat.blt q 104) (cond (Nat.blt q 103) 19 15) (cond (Nat.blt q 105) 10 (cond (Nat.blt q 106) 1 5))) (cond (Nat.blt q 109) (cond (Nat.blt q 108) 2 17) (cond (Nat.blt q 110) 17 (cond (Nat.blt q 111) 17 17)))) (cond (Nat.blt q 117) (cond (Nat.blt q 114) (cond (Nat.blt q 113) 17 17) (cond (Nat.blt q 115) 22 (cond (Nat.blt q 116) 4 4))) (cond (Nat.blt q 120) (cond (Nat.blt q 118) 12 (cond (Nat.blt q 119) 13 20)) (cond (Nat.blt q 121) 36 (cond (Nat.blt q 122) 36 45)))))) (cond (Nat.blt q 143) (cond (Nat.blt q 133) (cond (Nat.blt q 128) (cond (Nat.blt q 125) (cond (Nat.blt q 124) 19 19) (cond (Nat.blt q 126) 11 (cond (Nat.blt q 127) 26 30))) (cond (Nat.blt q 130) (cond (Nat.blt q 129) 39 48) (cond (Nat.blt q 131) 4 (cond (Nat.blt q 132) 1 1)))) (cond (Nat.blt q 138) (cond (Nat.blt q 135) (cond (Nat.blt q 134) 49 49) (cond (Nat.blt q 136) 52 (cond (Nat.blt q 137) 34 33))) (cond (Nat.blt q 140) (cond (Nat.blt q 139) 5 5) (cond (Nat.blt q 141) 5 (cond (Nat.blt q 142) 5 5))))) (cond (Nat.blt q 153) (cond (Nat.blt q 148) (cond (Nat.blt q 145) (cond (Nat.blt q 144) 47 37) (cond (Nat.blt q 146) 44 (cond (Nat.blt q 147) 37 37))) (cond (Nat.blt q 150) (cond (Nat.blt q 149) 37 4) (cond (Nat.blt q 151) 28 (cond (Nat.blt q 152) 1 17)))) (cond (Nat.blt q 158) (cond (Nat.blt q 155) (cond (Nat.blt q 154) 17 4) (cond (Nat.blt q 156) 4 (cond (Nat.blt q 157) 4 5))) (cond (Nat.blt q 161) (cond (Nat.blt q 159) 4 (cond (Nat.blt q 160) 17 17)) (cond (Nat.blt q 162) 69 (cond (Nat.blt q 163) 68 67)))))))) (cond (Nat.blt q 246) (cond (Nat.blt q 205) (cond (Nat.blt q 184) (cond (Nat.blt q 174) (cond (Nat.blt q 169) (cond (Nat.blt q 166) (cond (Nat.blt q 165) 10 10) (cond (Nat.blt q 167) 18 (cond (Nat.blt q 168) 18 18))) (cond (Nat.blt q 171) (cond (Nat.blt q 170) 18 18) (cond (Nat.blt q 172) 43 (cond (Nat.blt q 173) 11 19)))) (cond (Nat.blt q 179) (cond (Nat.blt q 176) (cond (Nat.blt q 175) 30 23) (cond (Nat.blt q 177) 23 (cond (Nat.blt q 178) 10 10))) (cond (Nat.blt q 181) (cond (Nat.blt q 180) 19 15) (cond (Nat.blt q 182) 10 (cond (Nat.blt q 183) 17 31))))) (cond (Nat.blt q 194) (cond (Nat.blt q 189) (cond (Nat.blt q 186) (cond (Nat.blt q 185) 11 10) (cond (Nat.blt q 187) 19 (cond (Nat.blt q 188) 19 19))) (cond (Nat.blt q 191) (cond (Nat.blt q 190) 23 23) (cond (Nat.blt q 192) 10 (cond (Nat.blt q 193) 10 10)))) (cond (Nat.blt q 199) (cond (Nat.blt q 196) (cond (Nat.blt q 195) 1 10) (cond (Nat.blt q 197) 19 (cond (Nat.blt q 198) 19 10))) (cond (Nat.blt q 202) (cond (Nat.blt q 200) 10 (cond (Nat.blt q 201) 10 18)) (cond (Nat.blt q 203) 18 (cond (Nat.blt q 204) 19 15)))))) (cond (Nat.blt q 225) (cond (Nat.blt q 215) (cond (Nat.blt q 210) (cond (Nat.blt q 207) (cond (Nat.blt q 206) 15 17) (cond (Nat.blt q 208) 1 (cond (Nat.blt q 209) 19 19))) (cond (Nat.blt q 212) (cond (Nat.blt q 211) 1 10) (cond (Nat.blt q 213) 58 (cond (Nat.blt q 214) 1 1)))) (cond (Nat.blt q 220) (cond (Nat.blt q 217) (cond (Nat.blt q 216) 1 1) (cond (Nat.blt q 218) 1 (cond (Nat.blt q 219) 10 3))) (cond (Nat.blt q 222) (cond (Nat.blt q 221) 3 19) (cond (Nat.blt q 223) 19 (cond (Nat.blt q 224) 19 60))))) (cond (Nat.blt q 235) (cond (Nat.blt q 230) (cond (Nat.blt q 227) (cond (Nat.blt q 226) 19 23) (cond (Nat.blt q 228) 19 (cond (Nat.blt q 229) 19 57))) (cond (Nat.blt q 232) (cond (Nat.blt q 231) 10 59) (cond (Nat.blt q 233) 19 (cond (Nat.blt q 234) 1 10)))) (cond (Nat.blt q 240) (cond (Nat.blt q 237) (cond (Nat.blt q 236) 10 19) (cond (Nat.blt q 238) 15 (cond (Nat.blt q 239) 10 1))) (cond (Nat.blt q 243) (cond (Nat.blt q 241) 18 (cond (Nat.blt q 242) 5 5)) (cond (Nat.blt q 244) 2 (cond (Nat.blt q 245) 17 1))))))) (cond (Nat.blt q 287) (cond (Nat.blt q 266) (cond (Nat.blt q 256) (cond (Nat.blt q 251) (cond (Nat.blt q 248) (cond (Nat.blt q 247) 17 10) (cond (Nat.blt q 249) 17 (cond (Nat.blt q 250) 62 7))) (cond (Nat.blt q 253) (cond (Nat.blt q 252) 14 38) (cond (Nat.blt q 254) 6 (cond (Nat.blt q 255) 5 64)))) (cond (Nat.blt q 261) (cond (Nat.blt q 258) (cond (Nat.blt q 257) 35 29) (cond (Nat.blt q 259) 10 (cond (Nat.blt q 260) 46 36))) (cond (Nat.blt q 263) (cond (Nat.blt q 262) 65 1) (cond (Nat.blt q 264) 71 (cond (Nat.blt q 265) 61 0))))) (cond (Nat.blt q 276) (cond (Nat.blt q 271) (cond (Nat.blt q 268) (cond (Nat.blt q 267) 22 23) (cond (Nat.blt q 269) 24 (cond (Nat.blt q 270) 4 63))) (cond (Nat.blt q 273) (cond (Nat.blt q 272) 8 16) (cond (Nat.blt q 274) 40 (cond (Nat.blt q 275) 3 17)))) (cond (Nat.blt q 281) (cond (Nat.blt q 278) (cond (Nat.blt q 277) 1 9) (cond (Nat.blt q 279) 72 (cond (Nat.blt q 280) 24 74))) (cond (Nat.blt q 284) (cond (Nat.blt q 282) 70 (cond (Nat.blt q 283) 22 73)) (cond (Nat.blt q 285) 73 (cond (Nat.blt q 286) 23 27)))))) (cond (Nat.blt q 308) (cond (Nat.blt q 297) (cond (Nat.blt q 292) (cond (Nat.blt q 289) (cond (Nat.blt q 288) 25 25) (cond (Nat.blt q 290) 53 (cond (Nat.blt q 291) 53 55))) (cond (Nat.blt q 294) (cond (Nat.blt q 293) 55 54) (cond (Nat.blt q 295) 55 (cond (Nat.blt q 296) 54 54)))) (cond (Nat.blt q 302) (cond (Nat.blt q 299) (cond (Nat.blt q 298) 53 53) (cond (Nat.blt q 300) 55 (cond (Nat.blt q 301) 55 55))) (cond (Nat.blt q 305) (cond (Nat.blt q 303) 55 (cond (Nat.blt q 304) 54 54)) (cond (Nat.blt q 306) 55 (cond (Nat.blt q 307) 55 55))))) (cond (Nat.blt q 318) (cond (Nat.blt q 313) (cond (Nat.blt q 310) (cond (Nat.blt q 309) 55 54) (cond (Nat.blt q 311) 55 (cond (Nat.blt q 312) 54 54))) (cond (Nat.blt q 315) (cond (Nat.blt q 314) 56 55) (cond (Nat.blt q 316) 55 (cond (Nat.blt q 317) 54 54)))) (cond (Nat.blt q 323) (cond (Nat.blt q 320) (cond (Nat.blt q 319) 54 54) (cond (Nat.blt q 321) 53 (cond (Nat.blt q 322) 54 55))) (cond (Nat.blt q 326) (cond (Nat.blt q 324) 54 (cond (Nat.blt q 325) 55 54)) (cond (Nat.blt q 327) 55 (cond (Nat.blt q 328) 55 75))))))))) 0
def nOfZ (Z n : Nat) : Bool := match dsL[tb_q Z]? with
  | some x => decide (x.1 = (tb_y Z).desc) && Nat.beq x.2 n
  | none => false
theorem dsL_ok : dsL.all (fun x => decide ((parseMethodDescriptor x.1).map (fun d => d.parameters.length) = some x.2)) = true := by decide +kernel
theorem nOf_of {Z n : Nat} (h : nOfZ Z n = true) : ∀ sig, parseMethodDescriptor (tb_y Z).desc = some sig → n = sig.parameters.length := by
  intro sig hs
  unfold nOfZ at h
  cases hx : dsL[tb_q Z]? with
  | none => rw [hx] at h; cases h
  | some x =>
    rw [hx] at h
    replace h : (decide (x.1 = (tb_y Z).desc) && Nat.beq x.2 n) = true := h
    rw [Bool.and_eq_true] at h
    have e1 : x.1 = (tb_y Z).desc := of_decide_eq_true h.1
    have e2 : x.2 = n := Nat.eq_of_beq_eq_true h.2
    have h3 := of_decide_eq_true (List.all_eq_true.mp dsL_ok x (List.mem_of_getElem? hx))
    rw [e1, hs, e2] at h3
    have h4 : some sig.parameters.length = some n := h3
    exact (Option.some.inj h4).symm
def okM (e : Nat × (Nat × Nat × Nat × Nat) × List Nat) : Bool :=
  if 7 ≤ e.2.1.2.1 ∧ e.2.1.2.1 ≤ 11 then true else okZ e.2.1.1 && (nOfZ e.2.1.1 e.2.1.2.2.1 && (match e.2.1.2.1, e.2.2 with
  | 0, [a, b, c] => atW a (.methodLink (cn (e.1 / 65536)) (e.1 % 65536) (tb_y e.2.1.1)) && (atW b (.static (tb_y e.2.1.1)) && atW c (.initialized (tb_y e.2.1.1).cls))
  | 1, [a, b, c, d] => atW a (.methodLink (cn (e.1 / 65536)) (e.1 % 65536) (tb_y e.2.1.1)) && (atW b (.instanceMethod (tb_y e.2.1.1)) && (atW c (.selects (tb_y e.2.1.1).cls (tb_y e.2.1.1) (tb_y e.2.1.1)) && (atW d (.initialized (tb_y e.2.1.1).cls) && decide (1 ≤ e.2.1.2.2.2 ∧ e.2.1.2.2.2 ≤ 100 ∧ (cls[e.2.1.2.2.2 - 1]?).map (fun r => r.1) = some (tb_y e.2.1.1).cls ∧ hhY e.2.1.1 = []))))
  | 5, [a, b, c, d, f, g, i, j, X] => okZ X && (decide (tb_y X = ⟨"java/lang/AbstractStringBuilder", (tb_y e.2.1.1).name, (tb_y e.2.1.1).desc⟩ ∧ hhY X = [] ∧ hhY e.2.1.1 = [] ∧ e.2.1.2.2.2 = 10) && (atW a (.methodLink (cn (e.1 / 65536)) (e.1 % 65536) (tb_y X)) && (atW b (.sameMethod (tb_y X).cls (tb_y X).cls (tb_y X).name (tb_y X).desc) && (atW d (.instanceMethod (tb_y e.2.1.1)) && (atW f (.initialized (tb_y e.2.1.1).cls) && (atW j (.instanceMethod (tb_y X)) && (atW c (.selects "java/lang/StringBuilder" (tb_y X) (tb_y e.2.1.1)) || decide (tb_y X = tb_y e.2.1.1 ∧ X ∈ sbX))))))))
  | _, _ => false))
theorem okM_app {α : Type} {f : α → Bool} {l : List α} (n : Nat) (h1 : (l.take n).all f = true) (h2 : (l.drop n).all f = true) : l.all f = true := by rw [← List.take_append_drop n l, List.all_append, h1, h2]; rfl
theorem okM_0 : ((tM_l.drop 0).take 64).all okM = true := by decide +kernel
theorem okM_1 : ((tM_l.drop 64).take 64).all okM = true := by decide +kernel
theorem okM_2 : ((tM_l.drop 128).take 64).all okM = true := by decide +kernel
theorem okM_3 : ((tM_l.drop 192).take 64).all okM = true := by decide +kernel
theorem okM_4 : ((tM_l.drop 256).take 64).all okM = true := by decide +kernel
theorem okM_5 : (tM_l.drop 320).all okM = true := by decide +kernel
theorem okM_t4 : (tM_l.drop 256).all okM = true := okM_app 64 okM_4 (by rw [List.drop_drop]; exact okM_5)
theorem okM_t3 : (tM_l.drop 192).all okM = true := okM_app 64 okM_3 (by rw [List.drop_drop]; exact okM_t4)
theorem okM_t2 : (tM_l.drop 128).all okM = true := okM_app 64 okM_2 (by rw [List.drop_drop]; exact okM_t3)
theorem okM_t1 : (tM_l.drop 64).all okM = true := okM_app 64 okM_1 (by rw [List.drop_drop]; exact okM_t2)
theorem okM_t0 : (tM_l.drop 0).all okM = true := okM_app 64 okM_0 (by rw [List.drop_drop]; exact okM_t1)
theorem okM_all : tM_l.all okM = true := okM_t0
end

section
def okI9 (e : Nat × (Nat × Nat × Nat × Nat) × List Nat) : Bool :=
  if e.2.1.2.1 = 6 then true else okZ e.2.1.1 && (nOfZ e.2.1.1 e.2.1.2.2.1 && (decide (hhY e.2.1.1 = []) && (match e.2.1.2.1, e.2.2 with
  | 2, [a, b, c] => atW a (.methodLink (cn (e.1 / 65536)) (e.1 % 65536) (tb_y e.2.1.1)) && (atW b (.instanceMethod (tb_y e.2.1.1)) && (atW c (.initialized (tb_y e.2.1.1).cls) && decide ((tb_y e.2.1.1).name = "<init>" ∧ tb_r e.2.1.1 = none)))
  | 3, [a, b, c] => decide (lw_tbl[a]? = some (.methodLinkNest (cn (e.1 / 65536)) (e.1 % 65536) (tb_y e.2.1.1) (cn (e.1 / 65536)))) && (atW b (.instanceMethod (tb_y e.2.1.1)) && (atW c (.initialized (tb_y e.2.1.1).cls) && decide ((tb_y e.2.1.1).name = "<init>" ∧ tb_r e.2.1.1 = none)))
  | 4, [a, b, c, d, f] => atW a (.methodLink (cn (e.1 / 65536)) (e.1 % 65536) (tb_y e.2.1.1)) && (atW b (.sameMethod (tb_y e.2.1.1).cls (tb_y e.2.1.1).cls (tb_y e.2.1.1).name (tb_y e.2.1.1).desc) && (atW c (.superclass (cn (e.1 / 65536)) (tb_y e.2.1.1).cls) && (atW d (.instanceMethod (tb_y e.2.1.1)) && (atW f (.initialized (tb_y e.2.1.1).cls) && decide ((tb_y e.2.1.1).name ≠ "<init>" ∧ e.2.1.2.2.2 = 10)))))
  | _, _ => false)))
theorem okI9_all : tI_l.all okI9 = true := by decide +kernel
def okQe (Y : Nat) (x : Nat × Nat × Nat × Nat) : Bool := match tQ_l.find? (fun e => e.1 == tb_o Y * 65536 + x.2.2.2) with
  | some e => decide (e.2.1 ∈ [1, 2, 3] ∧ x.2.2.2 ≠ 0) && (atW e.2.2 (.classLink (cn (tb_o Y)) x.2.2.2 (exN e.2.1)) && decide (Cond.castable (exN e.2.1) (exN e.2.1) ∈ lw_tbl))
  | none => false
theorem okQe_all : (List.range NM).all (fun Y => (hhY Y).all (okQe Y)) = true := by decide +kernel
theorem hhY_lt {Y : Nat} (h : hhY Y ≠ []) : Y < NM := by
  rcases Nat.lt_or_ge Y NM with z | z
  · exact z
  · exfalso
    apply h
    unfold hhY
    have e : Nat.blt Y NM = false := by
      cases h9 : Nat.blt Y NM with
      | false => rfl
      | true => have := Nat.blt_eq.mp h9; omega
    unfold NM at e
    rw [e]
    rfl
theorem okQ_of {Y : Nat} {x : Nat × Nat × Nat × Nat} (hx : x ∈ hhY Y) : x.2.2.2 ≠ 0 ∧ tQ (tb_o Y * 65536 + x.2.2.2) ∈ [1, 2, 3] ∧ (Cond.classLink (cn (tb_o Y)) x.2.2.2 (exN (tQ (tb_o Y * 65536 + x.2.2.2)))) ∈ Wd ∧ Cond.castable (exN (tQ (tb_o Y * 65536 + x.2.2.2))) (exN (tQ (tb_o Y * 65536 + x.2.2.2))) ∈ lw_tbl := by
  have h1 := List.all_eq_true.mp okQe_all Y (List.mem_range.mpr (hhY_lt (fun z => by rw [z] at hx; cases hx)))
  have h2 := List.all_eq_true.mp h1 x hx
  unfold okQe at h2
  unfold tQ
  cases hf : tQ_l.find? (fun e => e.1 == tb_o Y * 65536 + x.2.2.2) with
  | none => rw [hf] at h2; cases h2
  | some e =>
    rw [hf] at h2
    simp only [Bool.and_eq_true, decide_eq_true_eq] at h2
    exact ⟨h2.1.2, h2.1.1, atW_in h2.2.1, h2.2.2⟩
theorem s_tk_of {n : Nat} {stk as st : List Value} (h : s_tk n stk = some (as, st)) : stk = as.reverse ++ st ∧ as.length = n := by
  unfold s_tk at h
  by_cases hn : n ≤ stk.length
  · rw [if_pos hn] at h
    cases h
    refine ⟨by rw [List.reverse_reverse, List.take_append_drop], by rw [List.length_reverse, List.length_take]; omega⟩
  · rw [if_neg hn] at h
    cases h
section SXH
variable {l : Launch} {base : Nat} {D : va_G} {cA : Nat → ClassId} {h0 : MH}
variable {Y pc idx : Nat} {loc stk : List Value} {h h' : MH} {bc bs : Nat} {Q : MR → MH → Prop}
theorem SF_at {s U : State} {H : Heap} {locs : List Loc} (hsf : SF base D cA h0 s s.heap) (hs : va_S (Ab base) s.heap H locs) (hU : U.heap = H) (hW : s.WarmedH U.vm) : SF base D cA h0 U U.heap := hsf.go hW (fun q h1 h2 => by rw [hU]; exact hs.2.1 q h1 h2)
/-- behind the call: on in this method, or its handler, or out -/
theorem Kc_go {pc' : Nat} {loc rest : List Value} {p : Program} {e : Env} {R : Room} {s : State} {m : MethodId} {args : Array Value} {below : List Frame} {meth : Method} {c : Code} {H : Heap} {locs : List Loc} {cells slots mc ms mcZ msZ : Nat} {ls : Array Slot} {a : Array Value}
    (S : fit0 l base D cA h0 Y p R s m args meth c mc ms) (h1 : cells + bc ≤ mc) (h2 : slots + bs ≤ ms) (hl : RL (tb_m Y) loc ls) (hs : va_S (Ab base) s.heap H locs) (hbc : mcZ ≤ bc) (hbs : msZ ≤ bs)
    (hr : vx_Run p l e R s m args below meth c H locs cells slots mcZ msZ (F0 m pc ls stk) rest (QcO base D cA h0 (Kc (SX l base D cA h0) Y pc (pc + 3) loc rest (bc - mcZ) (bs - msZ) Q) a) (XcO base D cA h0 (Kc (SX l base D cA h0) Y pc (pc + 3) loc rest (bc - mcZ) (bs - msZ) Q)) (Ab base)) :
    W p l e R s m args below meth c H locs cells slots (vx_MQ below (QcO base D cA h0 Q) (XcO base D cA h0 Q) args s mc ms (Ab base)) (F0 m pc ls stk) := by
  refine run_go hr hs (fun En h' ce q H1 locs1 hQ hR hS hce hcv hcl => ?_) (fun v h' H1 locs1 hQ hR hS => hQ p e R s m args below meth c H1 locs1 _ _ mc ms ls S (by omega) (by omega) hl hR hS)
  obtain ⟨⟨hx, hb⟩, ⟨hml, hrt, hown, hts⟩, ⟨hlk, hin0, hsf, hbs9, hst⟩, ⟨hR1, hR2, hR3, hR4⟩, -, htab⟩ := id S
  simp only [Kc] at hQ
  by_cases hh : hhY Y = []
  · rw [if_pos hh] at hQ
    refine vx_out (fun x hx => by rw [htab, hh] at hx; cases hx) hlk hce hcv hcl (fun t ht hW => ⟨En, h', rfl, hQ, by rw [ht]; exact hR, ?_⟩) hS.2.2 (by omega) (by omega)
    exact hS.F ht
  · rw [if_neg hh] at hQ
    cases hn : hnd Y pc En with
    | none => rw [hn] at hQ; exact hQ.elim
    | some hp =>
      rw [hn] at hQ
      unfold hnd at hn
      rw [Option.map_eq_some_iff] at hn
      obtain ⟨x, hx1, hx2⟩ := hn
      obtain ⟨hpx, as, bs', hsp, hpre⟩ := List.find?_eq_some_iff_append.mp hx1
      simp only [Bool.and_eq_true, beq_iff_eq, Nat.ble_eq, Nat.blt_eq] at hpx
      have hxm : x ∈ hhY Y := by rw [hsp]; simp
      have hqx := okQ_of hxm
      have hEn := hpx.2.2
      rw [hEn] at hqx
      refine vx_catch hown (tableOf as) ⟨x.1, x.2.1, x.2.2.1, x.2.2.2⟩ (tableOf bs') (by rw [htab, hsp]; simp [tableOf]) (fun z hz => ?_) (by simp [covers, hpx.1, hpx.2.1]) (by exact hqx.1) (hts _ hqx.2.2.1) ((hsf.2.2.2.2.2.2.1 _ hqx.2.2.2 rfl).use rfl) hce hcv hcl (by
        show W _ _ _ _ _ _ _ _ _ _ _ _ _ _ _ (F0 m x.2.2.1 ls [.ref q])
        rw [hx2]
        exact hQ q p e R s m args below meth c H1 locs1 _ _ mc ms ls S (by omega) (by omega) hl hR hS)
      obtain ⟨w, hw1, hw2⟩ := List.mem_map.mp hz
      have hnot := hpre w hw1
      subst hw2
      by_cases hcov : covers (⟨w.1, w.2.1, w.2.2.1, w.2.2.2⟩ : ExceptionTableEntry) pc = true
      · refine Or.inr ?_
        simp only [covers, Bool.and_eq_true, decide_eq_true_eq] at hcov
        have hwm : w ∈ hhY Y := by rw [hsp]; simp [hw1]
        have hqw := okQ_of hwm
        refine ⟨hqw.1, _, hts _ hqw.2.2.1, hsf.2.2.2.2.2.2.2.2 En hqx.2.1 _ hqw.2.1 (fun z => ?_)⟩
        simp only [Bool.not_eq_true', Bool.and_eq_false_iff, ← z, beq_self_eq_true] at hnot
        rcases hnot with y1 | y1 | y1
        · have := hcov.1
          have y2 : ¬ w.1 ≤ pc := fun y => by rw [Nat.ble_eq.mpr y] at y1; cases y1
          omega
        · have := hcov.2
          have y2 : ¬ pc < w.2.1 := fun y => by rw [Nat.blt_eq.mpr y] at y1; cases y1
          omega
        · cases y1
      · exact Or.inl (by simpa using hcov)
end SXH
end

section
/-! the calls, by their kinds -/
section SXJ
variable {l : Launch} {base : Nat} {D : va_G} {cA : Nat → ClassId} {h0 : MH}
variable {Y pc idx : Nat} {loc stk : List Value} {h h' : MH} {bc bs : Nat} {Q : MR → MH → Prop}
/-- an address that holds a thing of a class: its cell -/
theorem tag_cell {s : State} {H : Heap} {locs : List Loc} {a tag : Nat} {r : vw_C} (hsf : SF base D cA h0 s s.heap) (hr : Rel base D cA h0 h H) (hs : va_S (Ab base) s.heap H locs) (hc : g_c h a = tag) (h1 : 1 ≤ tag) (h2 : tag ≤ 100) (hcl : cls[tag - 1]? = some r) :
    ∃ cellB : Cell, H[a]? = some cellB ∧ cellB.vm.isStatics = false ∧ s.vm.findClass r.1 = some cellB.cls := by
  by_cases ha : base ≤ a
  · obtain ⟨k1, -, -⟩ := hr.2.2.2.2.2.2 a ha (by omega)
    obtain ⟨r', g1, cell, q1, q2, q3, q4⟩ := k1 (by omega)
    rw [hc] at g1 q2
    cases g1.symm.trans hcl
    obtain ⟨hS, hfc, kC, hkC, hkind⟩ := hsf.1.1 _ r hcl
    exact ⟨cell, q1, by rw [q3]; rfl, by rw [q2]; exact hfc⟩
  · obtain ⟨b1, -, -, -⟩ := hr.2.2.2.2.2.1 a (by omega)
    rcases hsf.2.1 a (by omega) (by rw [← b1]; omega) with ⟨t1, ⟨cell, e1, e2, e3, e4⟩, -, -⟩ | ⟨t1, -, -⟩ | ⟨t1, -, -⟩
    · have ht : tag = 11 := by omega
      subst ht
      cases (show some ("java/lang/String", uT11, 2) = some r from hcl)
      exact ⟨cell, by rw [hs.2.1 a (Array.getElem?_eq_some_iff.mp e1).1 e4]; exact e1, e2, e3⟩
    · omega
    · omega
theorem okZ_hy {Z : Nat} (hz : okZ Z = true) : (tb_y Z).cls ≠ "java/lang/invoke/MethodHandle" ∧ (tb_y Z).cls ≠ "java/lang/invoke/VarHandle" := by
  simp only [okZ, decide_eq_true_eq] at hz
  exact ⟨hz.2.2.2.2.2.1, hz.2.2.2.2.2.2.1⟩
theorem okZ_m {Z : Nat} (hz : okZ Z = true) : tb_m Z ≤ 21 := by
  simp only [okZ, decide_eq_true_eq] at hz
  exact hz.2.2.2.2.2.2.2.1
theorem okZ_0 {Z : Nat} (hz : okZ Z = true) (hh : hhY Z = []) : Cond.code (tb_y Z) (tb_b Z) (tb_m Z) (tb_r Z) ∈ Wd := by
  have := cwd_in hz
  unfold cwd at this
  rwa [if_pos hh] at this
theorem okZ_1 {Z : Nat} (hz : okZ Z = true) (hh : ¬ hhY Z = []) : Cond.codeWith (tb_y Z) (tb_b Z) (tb_m Z) (tb_r Z) (hhY Z) ∈ Wd := by
  have := cwd_in hz
  unfold cwd at this
  rwa [if_neg hh] at this
theorem sx_cs {Z n tag mcZ msZ : Nat} {as st : List Value} (hd : decode (tb_b Y) pc = .ok (.invokestatic idx, 3)) (hf : tM (tb_o Y * 65536 + idx) = some (Z, 0, n, tag)) (hidx : idx < 65536) (ht : s_tk n stk = some (as, st)) (hm : (ent as).length ≤ tb_m Z ∧ tb_d Z + 1 ≤ tb_d Y) (hbc : mcZ ≤ bc) (hbs : msZ ≤ bs) (hcs : (st.map (fun v => v.category)).sum ≤ 8)
    (k : SX l base D cA h0 Z 0 (entN (tb_m Z) as) [] h mcZ msZ (Kc (SX l base D cA h0) Y pc (pc + 3) loc st (bc - mcZ) (bs - msZ) Q)) : SX l base D cA h0 Y pc loc stk h bc bs Q := by
  intro p e R s m args below meth c H locs cells slots mc ms ls S h1 h2 hl hr hs
  have S0 := S
  obtain ⟨⟨hx, hb⟩, ⟨hml, hrt, hown, hts⟩, ⟨hlk, hin0, hsf, hbs0, hst⟩, ⟨hR1, hR2, hR3, hR4⟩, hrk, htab⟩ := S
  obtain ⟨ws, hw⟩ := tM_of hf
  have hok := List.all_eq_true.mp okM_all _ hw
  simp only [okM, key_div hidx, key_mod hidx, show ¬ (7 ≤ 0 ∧ 0 ≤ 11) by decide, if_false] at hok
  simp only [Bool.and_eq_true] at hok
  obtain ⟨hz, hn, hok⟩ := hok
  obtain ⟨e1, e2⟩ := s_tk_of ht
  have hM := SX_met (h0 := h0) hst hz hm.1 k
  have hZm := okZ_m hz
  have hwsz : ∀ w ∈ wsZ Z, ∀ (a' : Array Value) (U : State), s.WarmedH U.vm → w.before a' U = true := fun w hw a' U hW => word_at hW (Wd_good w (wsZ_in hz w hw)) (hts w (wsZ_in hz w hw))
  have hfr : (rmZ Z mcZ msZ).frames + 1 ≤ R.frames := by show tb_d Z + 1 ≤ R.frames; omega
  have hlo : 8 + (tb_m Z + 11) + (rmZ Z mcZ msZ).locals ≤ R.locals := by show 8 + (tb_m Z + 11) + 40 * tb_d Z ≤ R.locals; omega
  have hp : PreS s H (PcO base D cA h0 as h) as := ⟨PcO_blind, fun U hU hW => ⟨rfl, by rw [hU]; exact hr, SF_at hsf hs hU hW, by rw [hU]; exact hr.2.2.1⟩⟩
  match ws, hok with
  | [a, b, d], hok =>
    simp only [Bool.and_eq_true] at hok
    refine Kc_go (pc' := 0) (rest := st) S0 h1 h2 hl hs hbc hbs (a := as.toArray) ?_
    by_cases hh : hhY Z = []
    · exact vx_runS ⟨hx, hb, hml, hown, hts⟩ hM ⟨⟨rfl, rfl, hfr, hlo, hwsz, by rw [wsZ_0 hh]; exact List.mem_cons_self, hts _ (okZ_0 hz hh), hts _ (atW_in hok.2.2), okZ_hy hz, nOf_of hn, hts _ (atW_in hok.1)⟩, hts _ (atW_in hok.2.1)⟩ hp rfl e2 hl.2.1 e1 (by show 2 * 0 + _ ≤ 8; omega) hd ⟨by omega, by omega⟩
    · exact vx_runSX (hh := hhY Z) ⟨hx, hb, hml, hown, hts⟩ hM ⟨⟨rfl, rfl, hfr, hlo, hwsz, by rw [wsZ_1 hh]; exact List.mem_cons_self⟩, hts _ (okZ_1 hz hh), hts _ (atW_in hok.2.2), okZ_hy hz, nOf_of hn, hts _ (atW_in hok.1), hts _ (atW_in hok.2.1)⟩ hp rfl e2 hl.2.1 e1 (by show 2 * 0 + _ ≤ 8; omega) hd ⟨by omega, by omega⟩
theorem sx_cv {Z n kd tag mcZ msZ a : Nat} {as st : List Value} (hd : decode (tb_b Y) pc = .ok (.invokevirtual idx, 3)) (hf : tM (tb_o Y * 65536 + idx) = some (Z, kd, n, tag)) (hkd : ¬ (7 ≤ kd ∧ kd ≤ 11)) (hk0 : ¬ kd = 0) (hidx : idx < 65536) (ht : s_tk n stk = some (as, .ref a :: st)) (hc : g_c h a = tag) (hm : (ent (.ref a :: as)).length ≤ tb_m Z ∧ tb_d Z + 1 ≤ tb_d Y) (hbc : mcZ ≤ bc) (hbs : msZ ≤ bs) (hcs : (st.map (fun v => v.category)).sum ≤ 8)
    (k : SX l base D cA h0 Z 0 (entN (tb_m Z) (.ref a :: as)) [] h mcZ msZ (Kc (SX l base D cA h0) Y pc (pc + 3) loc st (bc - mcZ) (bs - msZ) Q)) : SX l base D cA h0 Y pc loc stk h bc bs Q := by
  intro p e R s m args below meth c H locs cells slots mc ms ls S h1 h2 hl hr hs
  have S0 := S
  obtain ⟨⟨hx, hb⟩, ⟨hml, hrt, hown, hts⟩, ⟨hlk, hin0, hsf, hbs0, hst⟩, ⟨hR1, hR2, hR3, hR4⟩, hrk, htab⟩ := S
  obtain ⟨ws, hw⟩ := tM_of hf
  have hok := List.all_eq_true.mp okM_all _ hw
  simp only [okM, key_div hidx, key_mod hidx, if_neg hkd] at hok
  simp only [Bool.and_eq_true] at hok
  obtain ⟨hz, hn, hok⟩ := hok
  obtain ⟨e1, e2⟩ := s_tk_of ht
  have hM := SX_met (h0 := h0) hst hz hm.1 k
  have hZm := okZ_m hz
  have hwsz : ∀ w ∈ wsZ Z, ∀ (a' : Array Value) (U : State), s.WarmedH U.vm → w.before a' U = true := fun w hw a' U hW => word_at hW (Wd_good w (wsZ_in hz w hw)) (hts w (wsZ_in hz w hw))
  have hfr : (rmZ Z mcZ msZ).frames + 1 ≤ R.frames := by show tb_d Z + 1 ≤ R.frames; omega
  have hlo : 8 + (tb_m Z + 11) + (rmZ Z mcZ msZ).locals ≤ R.locals := by show 8 + (tb_m Z + 11) + 40 * tb_d Z ≤ R.locals; omega
  have hpc : ∀ U : State, U.heap = H → s.WarmedH U.vm → PcO base D cA h0 (.ref a :: as) h (Value.ref a :: as).toArray U := fun U hU hW => ⟨rfl, by rw [hU]; exact hr, SF_at hsf hs hU hW, by rw [hU]; exact hr.2.2.1⟩
  refine Kc_go (pc' := 0) (rest := st) S0 h1 h2 hl hs hbc hbs (a := (Value.ref a :: as).toArray) ?_
  match kd, hkd, hk0, ws, hok with
  | 1, _, _, [w1, w2, w3, w4], hok =>
    simp only [Bool.and_eq_true, decide_eq_true_eq] at hok
    obtain ⟨q1, q2, q3, q4, t1, t2, t3, hh⟩ := hok
    rw [Option.map_eq_some_iff] at t3
    obtain ⟨r, hcl, hrn⟩ := t3
    have hcell := tag_cell hsf hr hs hc t1 t2 hcl
    rw [hrn] at hcell
    exact vx_runV (C := (tb_y Z).cls) ⟨hx, hb, hml, hown, hts⟩ hM ⟨⟨rfl, rfl, hfr, hlo, hwsz, by rw [wsZ_0 hh]; exact List.mem_cons_self, hts _ (okZ_0 hz hh), hts _ (atW_in q4), okZ_hy hz, nOf_of hn, hts _ (atW_in q1)⟩, hts _ (atW_in q2), hts _ (atW_in q3)⟩ ⟨PcO_blind, hcell, hpc⟩ rfl e2 hl.2.1 e1 (by show 2 * 0 + _ ≤ 8; omega) hd ⟨by omega, by omega⟩
  | 5, _, _, [w1, w2, w3, w4, w5, w6, w7, w8, X], hok =>
    simp only [Bool.and_eq_true, Bool.or_eq_true, decide_eq_true_eq] at hok
    obtain ⟨hzX, ⟨xy, hhX, hh, ht10⟩, q1, q2, q4, q5, q8, q3⟩ := hok
    have hcell := tag_cell (r := ("java/lang/StringBuilder", uT10, 4)) hsf hr hs hc (by omega) (by omega) (by rw [ht10]; rfl)
    have hsel : Cond.selects "java/lang/StringBuilder" (tb_y X) (tb_y Z) ∈ Wd := by
      rcases q3 with q3 | ⟨q3, q6⟩
      · exact atW_in q3
      · rw [← q3]
        exact List.mem_filter.mpr ⟨List.mem_append.mpr (Or.inl (List.mem_map.mpr ⟨X, q6, rfl⟩)), rfl⟩
    refine vx_runU (C := "java/lang/StringBuilder") (owner := (tb_y X).cls) (x := tb_y X) ⟨hx, hb, hml, hown, hts⟩ hM ⟨⟨rfl, rfl, hfr, hlo, hwsz, by rw [wsZ_0 hh]; exact List.mem_cons_self⟩, hts _ (okZ_0 hz hh), hts _ (atW_in q5), okZ_hy hzX, ?_, hts _ (atW_in q1), hts _ (atW_in q2), va_Decl.of (hts _ (atW_in q8)) (hts _ (okZ_0 hzX hhX)), hts _ hsel, hts _ (atW_in q4)⟩ ⟨PcO_blind, hcell, hpc⟩ rfl e2 hl.2.1 e1 (by show 2 * 0 + _ ≤ 8; omega) hd ⟨by omega, by omega⟩
    rw [xy]
    exact nOf_of hn
theorem sx_ci {Z n kd tag mcZ msZ a : Nat} {as st : List Value} (hd : decode (tb_b Y) pc = .ok (.invokespecial idx, 3)) (hf : tI (tb_o Y * 65536 + idx) = some (Z, kd, n, tag)) (hk6 : ¬ kd = 6) (hidx : idx < 65536) (ht : s_tk n stk = some (as, .ref a :: st)) (hc : g_c h a = tag) (hm : (ent (.ref a :: as)).length ≤ tb_m Z ∧ tb_d Z + 1 ≤ tb_d Y) (hbc : mcZ ≤ bc) (hbs : msZ ≤ bs) (hcs : (st.map (fun v => v.category)).sum ≤ 8)
    (k : SX l base D cA h0 Z 0 (entN (tb_m Z) (.ref a :: as)) [] h mcZ msZ (Kc (SX l base D cA h0) Y pc (pc + 3) loc st (bc - mcZ) (bs - msZ) Q)) : SX l base D cA h0 Y pc loc stk h bc bs Q := by
  intro p e R s m args below meth c H locs cells slots mc ms ls S h1 h2 hl hr hs
  have S0 := S
  obtain ⟨⟨hx, hb⟩, ⟨hml, hrt, hown, hts⟩, ⟨hlk, hin0, hsf, hbs0, hst⟩, ⟨hR1, hR2, hR3, hR4⟩, hrk, htab⟩ := S
  obtain ⟨ws, hw⟩ := tI_of hf
  have hok := List.all_eq_true.mp okI9_all _ hw
  simp only [okI9, key_div hidx, key_mod hidx, if_neg hk6] at hok
  simp only [Bool.and_eq_true, decide_eq_true_eq] at hok
  obtain ⟨hz, hn, hh, hok⟩ := hok
  obtain ⟨e1, e2⟩ := s_tk_of ht
  have hM := SX_met (h0 := h0) hst hz hm.1 k
  have hZm := okZ_m hz
  have hwsz : ∀ w ∈ wsZ Z, ∀ (a' : Array Value) (U : State), s.WarmedH U.vm → w.before a' U = true := fun w hw a' U hW => word_at hW (Wd_good w (wsZ_in hz w hw)) (hts w (wsZ_in hz w hw))
  have hfr : (rmZ Z mcZ msZ).frames + 1 ≤ R.frames := by show tb_d Z + 1 ≤ R.frames; omega
  have hlo : 8 + (tb_m Z + 11) + (rmZ Z mcZ msZ).locals ≤ R.locals := by show 8 + (tb_m Z + 11) + 40 * tb_d Z ≤ R.locals; omega
  have hpc : ∀ U : State, U.heap = H → s.WarmedH U.vm → PcO base D cA h0 (.ref a :: as) h (Value.ref a :: as).toArray U := fun U hU hW => ⟨rfl, by rw [hU]; exact hr, SF_at hsf hs hU hW, by rw [hU]; exact hr.2.2.1⟩
  have hcz := hts _ (okZ_0 hz hh)
  refine Kc_go (pc' := 0) (rest := st) S0 h1 h2 hl hs hbc hbs (a := (Value.ref a :: as).toArray) ?_
  match kd, hk6, ws, hok with
  | 2, _, [w1, w2, w3], hok =>
    simp only [Bool.and_eq_true, decide_eq_true_eq] at hok
    obtain ⟨q1, q2, q3, q4, q5⟩ := hok
    exact vx_runI (ws := wsZ Z) (rm := rmZ Z mcZ msZ) (bytes := tb_b Z) (maxL := tb_m Z) (y := tb_y Z) (n := n) ⟨hx, hb, hml, hown, hts⟩ hM ⟨⟨rfl, rfl, hfr, hlo, hwsz, by rw [← q5, wsZ_0 hh]; exact List.mem_cons_self, by rw [← q5]; exact hcz, hts _ (atW_in q3), okZ_hy hz, nOf_of hn, hts _ (atW_in q1)⟩, q4, hts _ (atW_in q2)⟩ ⟨PcO_blind, hpc⟩ rfl e2 hl.2.1 e1 (by show 2 * 0 + _ ≤ 8; omega) hd ⟨by omega, by omega⟩
  | 3, _, [w1, w2, w3], hok =>
    simp only [Bool.and_eq_true, decide_eq_true_eq] at hok
    obtain ⟨q1, q2, q3, q4, q5⟩ := hok
    exact vx_runIN (ws := wsZ Z) (rm := rmZ Z mcZ msZ) (bytes := tb_b Z) (maxL := tb_m Z) (y := tb_y Z) (n := n) ⟨hx, hb, hml, hown, hts⟩ hM ⟨⟨⟨rfl, rfl, hfr, hlo, hwsz, by rw [← q5, wsZ_0 hh]; exact List.mem_cons_self⟩, by rw [← q5]; exact hcz, hts _ (atW_in q3), okZ_hy hz, nOf_of hn, (hsf.2.2.2.2.2.2.1 _ (List.mem_of_getElem? q1) rfl).use rfl⟩, q4, hts _ (atW_in q2)⟩ ⟨PcO_blind, hpc⟩ rfl e2 hl.2.1 e1 (by show 2 * 0 + _ ≤ 8; omega) hd ⟨by omega, by omega⟩
  | 4, _, [w1, w2, w3, w4, w5], hok =>
    simp only [Bool.and_eq_true, decide_eq_true_eq] at hok
    obtain ⟨q1, q2, q3, q4, q5, q6, ht10⟩ := hok
    have hcell := tag_cell (r := ("java/lang/StringBuilder", uT10, 4)) hsf hr hs hc (by omega) (by omega) (by rw [ht10]; rfl)
    obtain ⟨hS, hfc, kC, hkC, hkind⟩ := hsf.1.1 9 _ (show cls[9]? = some ("java/lang/StringBuilder", uT10, 4) from rfl)
    exact vx_runSU (C := "java/lang/StringBuilder") ⟨hfc, kC, hkC, hkind⟩ ⟨hx, hb, hml, hown, hts⟩ hM ⟨⟨rfl, rfl, hfr, hlo, hwsz, by rw [wsZ_0 hh]; exact List.mem_cons_self⟩, hts _ (atW_in q1), hts _ (atW_in q2), hts _ (atW_in q3), hts _ (atW_in q4), hts _ (atW_in q5), hcz, q6, nOf_of hn⟩ ⟨PcO_blind, hcell, hpc⟩ rfl e2 hl.2.1 e1 (by show 2 * 0 + _ ≤ 8; omega) hd ⟨by omega, by omega⟩
end SXJ
end
