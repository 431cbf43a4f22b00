/-! ALL CONTRACTS -/
theorem nKn {sc : List Int32} : ∀ c ∈ ([] : List nC), nCon (ktN sc) sc c := fun c hc => by cases hc
theorem nKc {sc : List Int32} {d : nC} {K : List nC} (h : nCon (ktN sc) sc d) (hK : ∀ c ∈ K, nCon (ktN sc) sc c) : ∀ c ∈ d :: K, nCon (ktN sc) sc c := fun c hc => by
  rcases List.mem_cons.mp hc with rfl | hc
  · exact h
  · exact hK c hc
theorem nrk_pre {I I' : tI} {p p' post : nPc} {v : Option Value} {f : nRf} (h : ∀ i, npv I p i = npv I p' i) (hk : nrk I I' p post v f) : nrk I I' p' post v f := by
  have e : nrv I I' p post v = nrv I I' p' post v := by
    funext w
    obtain ⟨a, b⟩ := w
    match a with
    | 0 => rfl
    | 1 => exact h b
    | _ + 2 => rfl
  unfold nrk at hk ⊢
  rw [e] at hk
  exact hk
theorem nS3720k : nShift 3720 0 252 = true ∧ nFitB 3720 0 252 = true := by
  have := nChk1_ok
  unfold nChk1 at this
  simp only [Bool.and_eq_true] at this
  exact this.1
theorem nS3100k : nShift 3100 0 252 = true ∧ nFitB 3100 0 252 = true := by
  have := nChk1_ok
  unfold nChk1 at this
  simp only [Bool.and_eq_true] at this
  exact this.2.1
theorem nS3720r : nShift 0 3720 252 = true ∧ nFitB 0 3720 252 = true := by
  have := nChk1_ok
  unfold nChk1 at this
  simp only [Bool.and_eq_true] at this
  exact this.2.2.1
theorem nS3100r : nShift 0 3100 252 = true ∧ nFitB 0 3100 252 = true := by
  have := nChk1_ok
  unfold nChk1 at this
  simp only [Bool.and_eq_true] at this
  exact this.2.2.2
theorem nS37205 : ktB 186 (3720 + 5) = (0, 0, 999) := by decide +kernel
theorem nS31005 : ktB 186 (3100 + 5) = (0, 0, 999) := by decide +kernel
def nw48z : nOr := (ktX0 [], nw48.2)
set_option maxRecDepth 1000000 in
theorem nq48z : ncheck kt0 [] nw48z 3000 nc48 = true := by decide +kernel
theorem nN48 {sc : List Int32} : nCon (ktN sc) sc nc48 := ncheck_ok (W := nw48z) ktN_cl nKn (fun _ hF => ktX0_ok hF) (ncheck_N nq48z)
theorem nN0 {sc : List Int32} : nCon (ktN sc) sc nc0 := ncheck_ok (W := nw0) ktN_cl nKn (fun _ hF => ktX_ok hF nN48) (ncheck_N nq0) -- LP.status
theorem nN1 {sc : List Int32} : nCon (ktN sc) sc nc1 := ncheck_ok (W := nw1) ktN_cl nKn (fun _ hF => ktX_ok hF nN48) (ncheck_N nq1) -- LPModel.status
theorem nN2 {sc : List Int32} : nCon (ktN sc) sc nc2 := ncheck_ok (W := nw2) ktN_cl nKn (fun _ hF => ktX_ok hF nN48) (ncheck_N nq2) -- LP.top
theorem nN3 {sc : List Int32} : nCon (ktN sc) sc nc3 := ncheck_ok (W := nw3) ktN_cl nKn (fun _ hF => ktX_ok hF nN48) (ncheck_N nq3) -- LPModel.top
theorem nN4 {sc : List Int32} : nCon (ktN sc) sc nc4 := ncheck_ok (W := nw4) ktN_cl nKn (fun _ hF => ktX_ok hF nN48) (ncheck_N nq4) -- LP.bottom
theorem nN5 {sc : List Int32} : nCon (ktN sc) sc nc5 := ncheck_ok (W := nw5) ktN_cl nKn (fun _ hF => ktX_ok hF nN48) (ncheck_N nq5) -- LPModel.bottom
theorem nN6 {sc : List Int32} : nCon (ktN sc) sc nc6 := ncheck_ok (W := nw6) ktN_cl nKn (fun _ hF => ktX_ok hF nN48) (ncheck_N nq6) -- Arrays.fill
theorem nN7 {sc : List Int32} : nCon (ktN sc) sc nc7 := ncheck_ok (W := nw7) ktN_cl nKn (fun _ hF => ktX_ok hF nN48) (ncheck_N nq7) -- Arrays.fill
theorem nN8 {sc : List Int32} : nCon (ktN sc) sc nc8 := ncheck_ok (W := nw8) ktN_cl nKn (fun _ hF => ktX_ok hF nN48) (ncheck_N nq8) -- Arrays.fill
theorem nN9 {sc : List Int32} : nCon (ktN sc) sc nc9 := ncheck_ok (W := nw9) ktN_cl nKn (fun _ hF => ktX_ok hF nN48) (ncheck_N nq9) -- Arrays.fill
theorem nN10 {sc : List Int32} : nCon (ktN sc) sc nc10 := ncheck_ok (W := nw10) ktN_cl (nKc nN6 (nKc nN7 (nKc nN8 (nKc nN9 nKn)))) (fun _ hF => ktX_ok hF nN48) (ncheck_N nq10) -- LP.tray
theorem nN11 {sc : List Int32} : nCon (ktN sc) sc nc11 := ncheck_ok (W := nw11) ktN_cl nKn (fun _ hF => ktX_ok hF nN48) (ncheck_N nq11) -- LPModel.tray
theorem nN12 {sc : List Int32} : nCon (ktN sc) sc nc12 := ncheck_ok (W := nw12) ktN_cl nKn (fun _ hF => ktX_ok hF nN48) (ncheck_N nq12) -- LP.write
theorem nN13 {sc : List Int32} : nCon (ktN sc) sc nc13 := ncheck_ok (W := nw13) ktN_cl nKn (fun _ hF => ktX_ok hF nN48) (ncheck_N nq13) -- LPModel.write
theorem nN14 {sc : List Int32} : nCon (ktN sc) sc nc14 := ncheck_ok (W := nw14) ktN_cl nKn (fun _ hF => ktX_ok hF nN48) (ncheck_N nq14) -- LP.read
theorem nN15 {sc : List Int32} : nCon (ktN sc) sc nc15 := ncheck_ok (W := nw15) ktN_cl nKn (fun _ hF => ktX_ok hF nN48) (ncheck_N nq15) -- LPModel.read
theorem nN16 {sc : List Int32} : nCon (ktN sc) sc nc16 := ncheck_ok (W := nw16) ktN_cl nKn (fun _ hF => ktX_ok hF nN48) (ncheck_N nq16) -- LP.pour
theorem nN17 {sc : List Int32} : nCon (ktN sc) sc nc17 := ncheck_ok (W := nw17) ktN_cl nKn (fun _ hF => ktX_ok hF nN48) (ncheck_N nq17) -- LPModel.pour
theorem nN18 {sc : List Int32} : nCon (ktN sc) sc nc18 := ncheck_ok (W := nw18) ktN_cl nKn (fun _ hF => ktX_ok hF nN48) (ncheck_N nq18) -- LP.putOnTape
theorem nN19 {sc : List Int32} : nCon (ktN sc) sc nc19 := ncheck_ok (W := nw19) ktN_cl (nKc nN18 nKn) (fun _ hF => ktX_ok hF nN48) (ncheck_N nq19) -- LP.feed
theorem nN20 {sc : List Int32} : nCon (ktN sc) sc nc20 := ncheck_ok (W := nw20) ktN_cl nKn (fun _ hF => ktX_ok hF nN48) (ncheck_N nq20) -- LPModel.feed
theorem nN21 {sc : List Int32} : nCon (ktN sc) sc nc21 := runs_ok (d := 26) (s := 52) ⟨by omega, ⟨rfl, rfl⟩, fun a h1 h2 => by
    rcases (by omega : a = 1 ∨ a = 2 ∨ a = 3 ∨ a = 4) with e | e | e | e
    all_goals (subst e; exact ⟨rfl, rfl, fun _ => rfl, fun _ => rfl⟩), (fun k hk => by
    rcases (by omega : k = 0 ∨ k = 1 ∨ k = 2) with e | e | e
    all_goals (subst e; exact ⟨rfl, rfl⟩)), rfl, fun a h1 h2 => by
    rcases (by omega : a = 1 ∨ a = 2 ∨ a = 3 ∨ a = 4) with e | e | e | e
    all_goals (subst e; exact ⟨rfl, rfl⟩), by omega⟩ (by decide +kernel) -- LP$Runs.takeOver
theorem nN22 {sc : List Int32} : nCon (ktN sc) sc nc22 := ncheck_ok (W := nw22) ktN_cl nKn (fun _ hF => ktX_ok hF nN48) (ncheck_N nq22) -- LP$Folk.begin
theorem nN23 {sc : List Int32} : nCon (ktN sc) sc nc23 := ncheck_ok (W := nw23) ktN_cl nKn (fun _ hF => ktX_ok hF nN48) (ncheck_N nq23) -- LP$Folk.isHome
theorem nN24 {sc : List Int32} : nCon (ktN sc) sc nc24 := ncheck_ok (W := nw24) ktN_cl nKn (fun _ hF => ktX_ok hF nN48) (ncheck_N nq24) -- LP$Reader.scanWord
theorem nN25 {sc : List Int32} : nCon (ktN sc) sc nc25 := ncheck_ok (W := nw25) ktN_cl nKn (fun _ hF => ktX_ok hF nN48) (ncheck_N nq25) -- LP$Reader.scanNumber
theorem nN26 {sc : List Int32} : nCon (ktN sc) sc nc26 := ncheck_ok (W := nw26) ktN_cl nKn (fun _ hF => ktX_ok hF nN48) (ncheck_N nq26) -- LP$Reader.wordNumber
theorem nN27 {sc : List Int32} : nCon (ktN sc) sc nc27 := ncheck_ok (W := nw27) ktN_cl (nKc nN24 (nKc nN25 (nKc nN26 nKn))) (fun _ hF => ktX_ok hF nN48) (ncheck_N nq27) -- LP$Reader.advance
theorem nN28 {sc : List Int32} : nCon (ktN sc) sc nc28 := ncheck_ok (W := nw28) ktN_cl nKn (fun _ hF => ktX_ok hF nN48) (ncheck_N nq28) -- LP$Reader.wrong
theorem nN29 {sc : List Int32} : nCon (ktN sc) sc nc29 := ncheck_ok (W := nw29) ktN_cl (nKc nN27 (nKc nN28 nKn)) (fun _ hF => ktX_ok hF nN48) (ncheck_N nq29) -- LP$Reader.passClose
theorem nN30 {sc : List Int32} : nCon (ktN sc) sc nc30 := ncheck_ok (W := nw30) ktN_cl nKn (fun _ hF => ktX_ok hF nN48) (ncheck_N nq30) -- Arrays.fill
theorem nN31 {sc : List Int32} : nCon (ktN sc) sc nc31 := ncheck_ok (W := nw31) ktN_cl (nKc nN28 nKn) (fun _ hF => ktX_ok hF nN48) (ncheck_N nq31) -- LP$Reader.isName
theorem nN32 {sc : List Int32} : nCon (ktN sc) sc nc32 := ncheck_ok (W := nw32) ktN_cl nKn (fun _ hF => ktX_ok hF nN48) (ncheck_N nq32) -- LP$Reader.indexOf
theorem nN33 {sc : List Int32} : nCon (ktN sc) sc nc33 := ncheck_ok (W := nw33) ktN_cl nKn (fun _ hF => ktX_ok hF nN48) (ncheck_N nq33) -- LP$Reader.indexOf
theorem nN34 {sc : List Int32} : nCon (ktN sc) sc nc34 := ncheck_ok (W := nw34) ktN_cl nKn (fun _ hF => ktX_ok hF nN48) (ncheck_N nq34) -- LP$Reader.indexOf
theorem nN35 {sc : List Int32} : nCon (ktN sc) sc nc35 := ncheck_ok (W := nw35) ktN_cl (nKc nN28 (nKc nN31 (nKc nN32 (nKc nN33 (nKc nN34 nKn))))) (fun _ hF => ktX_ok hF nN48) (ncheck_N nq35) -- LP$SceneReader.isNewName
theorem nN36 {sc : List Int32} : nCon (ktN sc) sc nc36 := ncheck_ok (W := nw36) ktN_cl (nKc nN27 (nKc nN28 nKn)) (fun _ hF => ktX_ok hF nN48) (ncheck_N nq36) -- LP$SceneReader.readTimes
theorem nN37 {sc : List Int32} : nCon (ktN sc) sc nc37 := ncheck_ok (W := nw37) ktN_cl (nKc nN27 (nKc nN28 nKn)) (fun _ hF => ktX_ok hF nN48) (ncheck_N nq37) -- LP$SceneReader.readSteps
theorem nN38 {sc : List Int32} : nCon (ktN sc) sc nc38 := ncheck_ok (W := nw38) ktN_cl (nKc nN23 (nKc nN27 (nKc nN28 (nKc nN29 (nKc nN35 (nKc nN36 (nKc nN37 nKn))))))) (fun _ hF => ktX_ok hF nN48) (ncheck_N nq38) -- LP$SceneReader.readPerson
theorem nN39 {sc : List Int32} : nCon (ktN sc) sc nc39 := ncheck_ok (W := nw39) ktN_cl (nKc nN27 (nKc nN28 (nKc nN31 (nKc nN32 nKn)))) (fun _ hF => ktX_ok hF nN48) (ncheck_N nq39) -- LP$SceneReader.readSeen
theorem nN40 {sc : List Int32} : nCon (ktN sc) sc nc40 := ncheck_ok (W := nw40) ktN_cl (nKc nN27 (nKc nN28 (nKc nN29 (nKc nN35 (nKc nN39 nKn))))) (fun _ hF => ktX_ok hF nN48) (ncheck_N nq40) -- LP$SceneReader.readSight
theorem nN41 {sc : List Int32} : nCon (ktN sc) sc nc41 := ncheck_ok (W := nw41) ktN_cl (nKc nN27 (nKc nN28 (nKc nN29 (nKc nN35 nKn)))) (fun _ hF => ktX_ok hF nN48) (ncheck_N nq41) -- LP$SceneReader.readBuyer
theorem nN42 {sc : List Int32} : nCon (ktN sc) sc nc42 := ncheck_ok (W := nw42) ktN_cl (nKc nN22 (nKc nN23 (nKc nN27 (nKc nN28 (nKc nN29 (nKc nN30 (nKc nN38 (nKc nN40 (nKc nN41 nKn))))))))) (fun _ hF => ktX_ok hF nN48) (ncheck_N nq42) -- LP$SceneReader.reads
theorem nN43 {sc : List Int32} : nCon (ktN sc) sc nc43 := sights_ok (d := 21) (s := 47) ⟨by omega, ⟨rfl, rfl⟩, fun a h1 h2 => by
    rcases (by omega : a = 2 ∨ a = 3 ∨ a = 4) with e | e | e
    all_goals (subst e; exact ⟨rfl, rfl, fun _ => rfl, fun _ => rfl⟩), ⟨rfl, rfl, fun _ => ⟨rfl, rfl⟩⟩, ⟨rfl, rfl⟩, fun a h1 h2 => by
    rcases (by omega : a = 1 ∨ a = 2 ∨ a = 3 ∨ a = 4) with e | e | e | e
    all_goals (subst e; exact ⟨rfl, rfl⟩), by omega⟩ (by decide +kernel) -- LP$Sights.takeOver
theorem nN44 {sc : List Int32} : nCon (ktN sc) sc nc44 := ncheck_ok (W := nw44) ktN_cl (nKc nN21 (nKc nN42 (nKc nN43 nKn))) (fun _ hF => ktX_ok hF nN48) (ncheck_N nq44) -- LP.scene
theorem nN45 {sc : List Int32} : nCon (ktN sc) sc nc45 := plain_ok -- LPModel.plain
theorem nR46 {sc : List Int32} : nRich (ktN sc) sc rc46 := nrchk_ok (W := nw46) ktN_cl nKn (fun _ hF => ktX_ok hF nN48) (nrchk_N nq46) -- LPModel.ahead
theorem nR46l {sc : List Int32} : nRich (ktN sc) sc rc46l := nrchk_ok (W := nw46) ktN_cl nKn (fun _ hF => ktX_ok hF nN48) (nrchk_N nq46l)
theorem nN47 {sc : List Int32} : nCon (ktN sc) sc nc47 := ncheck_ok (W := nw47) ktN_cl nKn (fun _ hF => nXor_ok (nrcX_ok hF nR46) (nXor_ok (nrcX_ok hF nR46l) (ktX_ok hF nN48))) (ncheck_N nq47) -- LPModel.begins
theorem nN49 {sc : List Int32} : nCon (ktN sc) sc nc49 := ncheck_ok (W := nw49) ktN_cl nKn (fun _ hF => ktX_ok hF nN48) (ncheck_N nq49) -- LPModel.fails
theorem nN50 {sc : List Int32} : nCon (ktN sc) sc nc50 := ncheck_ok (W := nw50) ktN_cl nKn (fun _ hF => ktX_ok hF nN48) (ncheck_N nq50) -- LPModel.nameHere
theorem nN51 {sc : List Int32} : nCon (ktN sc) sc nc51 := ncheck_ok (W := nw51) ktN_cl (nKc nN50 nKn) (fun _ hF => ktX_ok hF nN48) (ncheck_N nq51) -- LPModel.findHere
theorem nN52 {sc : List Int32} : nCon (ktN sc) sc nc52 := ncheck_ok (W := nw52) ktN_cl (nKc nN50 nKn) (fun _ hF => ktX_ok hF nN48) (ncheck_N nq52) -- LPModel.findHere
theorem nN53 {sc : List Int32} : nCon (ktN sc) sc nc53 := ncheck_ok (W := nw53) ktN_cl (nKc nN50 nKn) (fun _ hF => ktX_ok hF nN48) (ncheck_N nq53) -- LPModel.findHere
theorem nN54 {sc : List Int32} : nCon (ktN sc) sc nc54 := ncheck_ok (W := nw54) ktN_cl nKn (fun _ hF => ktX_ok hF nN48) (ncheck_N nq54) -- LPModel.isToldCell
theorem nR55 {sc : List Int32} : nRich (ktN sc) sc rc55 := nrchk_ok (W := nw55) ktN_cl (nKc nN49 (nKc nN54 nKn)) (fun _ hF => nXor_ok (nrcX_ok hF nR46) (nXor_ok (nrcX_ok hF nR46l) (ktX_ok hF nN48))) (nrchk_N nq55) -- LPModel.cellTo
theorem nR56 {sc : List Int32} : nRich (ktN sc) sc rc56 := nrchk_ok (W := nw56) ktN_cl (nKc nN48 (nKc nN49 (nKc nN50 (nKc nN51 (nKc nN52 (nKc nN53 nKn)))))) (fun _ hF => nXor_ok (nrcX_ok hF nR46) (nXor_ok (nrcX_ok hF nR46l) (nXor_ok (nrcX_ok hF nR55) (ktX_ok hF nN48)))) (nrchk_N nq56) -- LPModel.aPerson
theorem nR57 {sc : List Int32} : nRich (ktN sc) sc rc57 := nrchk_ok (W := nw57) ktN_cl (nKc nN49 (nKc nN54 nKn)) (fun _ hF => nXor_ok (nrcX_ok hF nR46) (nXor_ok (nrcX_ok hF nR46l) (ktX_ok hF nN48))) (nrchk_N nq57) -- LPModel.cellTo
theorem nR58 {sc : List Int32} : nRich (ktN sc) sc rc58 := nrchk_ok (W := nw58) ktN_cl (nKc nN48 (nKc nN49 (nKc nN50 (nKc nN51 (nKc nN52 (nKc nN53 nKn)))))) (fun _ hF => nXor_ok (nrcX_ok hF nR46) (nXor_ok (nrcX_ok hF nR46l) (nXor_ok (nrcX_ok hF nR57) (ktX_ok hF nN48)))) (nrchk_N nq58) -- LPModel.aPerson
theorem nR59 {sc : List Int32} : nRich (ktN sc) sc rc59 := nrchk_ok (W := nw59) ktN_cl (nKc nN49 (nKc nN54 nKn)) (fun _ hF => nXor_ok (nrcX_ok hF nR46) (nXor_ok (nrcX_ok hF nR46l) (ktX_ok hF nN48))) (nrchk_N nq59) -- LPModel.cellTo
theorem nR60 {sc : List Int32} : nRich (ktN sc) sc rc60 := nrchk_ok (W := nw60) ktN_cl (nKc nN48 (nKc nN49 (nKc nN50 (nKc nN51 (nKc nN52 (nKc nN53 nKn)))))) (fun _ hF => nXor_ok (nrcX_ok hF nR46) (nXor_ok (nrcX_ok hF nR46l) (nXor_ok (nrcX_ok hF nR59) (ktX_ok hF nN48)))) (nrchk_N nq60) -- LPModel.aPerson
theorem nR61 {sc : List Int32} : nRich (ktN sc) sc rc61 := nrchk_ok (W := nw61) ktN_cl (nKc nN49 (nKc nN54 nKn)) (fun _ hF => nXor_ok (nrcX_ok hF nR46) (nXor_ok (nrcX_ok hF nR46l) (ktX_ok hF nN48))) (nrchk_N nq61) -- LPModel.cellTo
theorem nR62 {sc : List Int32} : nRich (ktN sc) sc rc62 := nrchk_ok (W := nw62) ktN_cl (nKc nN48 (nKc nN49 (nKc nN50 (nKc nN51 (nKc nN52 (nKc nN53 nKn)))))) (fun _ hF => nXor_ok (nrcX_ok hF nR46) (nXor_ok (nrcX_ok hF nR46l) (nXor_ok (nrcX_ok hF nR61) (ktX_ok hF nN48)))) (nrchk_N nq62) -- LPModel.aPerson
theorem nR63 {sc : List Int32} : nRich (ktN sc) sc rc63 := nrchk_ok (W := nw63) ktN_cl (nKc nN49 (nKc nN54 nKn)) (fun _ hF => nXor_ok (nrcX_ok hF nR46) (nXor_ok (nrcX_ok hF nR46l) (ktX_ok hF nN48))) (nrchk_N nq63) -- LPModel.cellTo
theorem nR64 {sc : List Int32} : nRich (ktN sc) sc rc64 := nrchk_ok (W := nw64) ktN_cl (nKc nN48 (nKc nN49 (nKc nN50 (nKc nN51 (nKc nN52 (nKc nN53 nKn)))))) (fun _ hF => nXor_ok (nrcX_ok hF nR46) (nXor_ok (nrcX_ok hF nR46l) (nXor_ok (nrcX_ok hF nR63) (ktX_ok hF nN48)))) (nrchk_N nq64) -- LPModel.aPerson
theorem nR65 {sc : List Int32} : nRich (ktN sc) sc rc65 := nrchk_ok (W := nw65) ktN_cl (nKc nN49 nKn) (fun _ hF => ktX_ok hF nN48) (nrchk_N nq65) -- LPModel.aPerson
theorem nR66 {sc : List Int32} : nRich (ktN sc) sc rc66 := by
  intro r as B I J hr hv hO hp hf
  have b1 := hp _ List.mem_cons_self
  have b2 := hp _ (List.mem_cons_of_mem _ List.mem_cons_self)
  dsimp only at b1 b2
  rcases (by omega : (I 186 2482).toInt = 0 ∨ (I 186 2482).toInt = 1 ∨ (I 186 2482).toInt = 2 ∨ (I 186 2482).toInt = 3 ∨ (I 186 2482).toInt = 4 ∨ (I 186 2482).toInt = 5) with e | e | e | e | e | e
  · refine sw_mono (nR56 r as B I J hr hv hO (fun q hq => ?_) (fun f hf => by cases hf)) ?_
    · rcases List.mem_cons.mp hq with rfl | hq
      · exact b1
      · rw [List.mem_singleton] at hq
        subst hq
        dsimp only
        omega
    · rintro v M' ⟨B', I', J', e1, e2, e3, e4, al, hal, h1, h2⟩
      exact ⟨B', I', J', e1, e2, e3, e4, al, hal, h1, fun f hf => nrk_pre (fun i => by
        match i with
        | 0 => rfl
        | 1 => rfl
        | _ + 2 => rfl) (h2 f hf)⟩
  · refine sw_mono (nR58 r as B I J hr hv hO (fun q hq => ?_) (fun f hf => by cases hf)) ?_
    · rcases List.mem_cons.mp hq with rfl | hq
      · exact b1
      · rw [List.mem_singleton] at hq
        subst hq
        dsimp only
        omega
    · rintro v M' ⟨B', I', J', e1, e2, e3, e4, al, hal, h1, h2⟩
      exact ⟨B', I', J', e1, e2, e3, e4, al, hal, h1, fun f hf => nrk_pre (fun i => by
        match i with
        | 0 => rfl
        | 1 => rfl
        | _ + 2 => rfl) (h2 f hf)⟩
  · refine sw_mono (nR60 r as B I J hr hv hO (fun q hq => ?_) (fun f hf => by cases hf)) ?_
    · rcases List.mem_cons.mp hq with rfl | hq
      · exact b1
      · rw [List.mem_singleton] at hq
        subst hq
        dsimp only
        omega
    · rintro v M' ⟨B', I', J', e1, e2, e3, e4, al, hal, h1, h2⟩
      exact ⟨B', I', J', e1, e2, e3, e4, al, hal, h1, fun f hf => nrk_pre (fun i => by
        match i with
        | 0 => rfl
        | 1 => rfl
        | _ + 2 => rfl) (h2 f hf)⟩
  · refine sw_mono (nR62 r as B I J hr hv hO (fun q hq => ?_) (fun f hf => by cases hf)) ?_
    · rcases List.mem_cons.mp hq with rfl | hq
      · exact b1
      · rw [List.mem_singleton] at hq
        subst hq
        dsimp only
        omega
    · rintro v M' ⟨B', I', J', e1, e2, e3, e4, al, hal, h1, h2⟩
      exact ⟨B', I', J', e1, e2, e3, e4, al, hal, h1, fun f hf => nrk_pre (fun i => by
        match i with
        | 0 => rfl
        | 1 => rfl
        | _ + 2 => rfl) (h2 f hf)⟩
  · refine sw_mono (nR64 r as B I J hr hv hO (fun q hq => ?_) (fun f hf => by cases hf)) ?_
    · rcases List.mem_cons.mp hq with rfl | hq
      · exact b1
      · rw [List.mem_singleton] at hq
        subst hq
        dsimp only
        omega
    · rintro v M' ⟨B', I', J', e1, e2, e3, e4, al, hal, h1, h2⟩
      exact ⟨B', I', J', e1, e2, e3, e4, al, hal, h1, fun f hf => nrk_pre (fun i => by
        match i with
        | 0 => rfl
        | 1 => rfl
        | _ + 2 => rfl) (h2 f hf)⟩
  · refine sw_mono (nR65 r as B I J hr hv hO (fun q hq => ?_) (fun f hf => by cases hf)) ?_
    · rcases List.mem_cons.mp hq with rfl | hq
      · exact b1
      · rw [List.mem_singleton] at hq
        subst hq
        dsimp only
        omega
    · rintro v M' ⟨B', I', J', e1, e2, e3, e4, al, hal, h1, h2⟩
      exact ⟨B', I', J', e1, e2, e3, e4, al, hal, h1, fun f hf => nrk_pre (fun i => by
        match i with
        | 0 => rfl
        | 1 => rfl
        | _ + 2 => rfl) (h2 f hf)⟩
theorem nR67 {sc : List Int32} : nRich (ktN sc) sc rc67 := nrchk_ok (W := nw67) ktN_cl (nKc nN48 (nKc nN49 (nKc nN50 (nKc nN51 (nKc nN52 (nKc nN53 nKn)))))) (fun _ hF => nXor_ok (nrcX_ok hF nR46) (nXor_ok (nrcX_ok hF nR46l) (ktX_ok hF nN48))) (nrchk_N nq67) -- LPModel.aSight
theorem nR68 {sc : List Int32} : nRich (ktN sc) sc rc68 := nrchk_ok (W := nw68) ktN_cl (nKc nN48 (nKc nN49 (nKc nN50 (nKc nN51 (nKc nN52 (nKc nN53 (nKc nN54 nKn))))))) (fun _ hF => nXor_ok (nrcX_ok hF nR46) (nXor_ok (nrcX_ok hF nR46l) (nXor_ok (nrcX_ok hF nR66) (nXor_ok (nrcX_ok hF nR67) (ktX_ok hF nN48))))) (nrchk_N nq68) -- LPModel.scenePart
theorem nN69 {sc : List Int32} : nCon (ktN sc) sc nc69 := ncheck_ok (W := nw69) ktN_cl (nKc nN45 (nKc nN47 nKn)) (fun _ hF => nXor_ok (nrcX_ok hF nR68) (ktX_ok hF nN48)) (ncheck_N nq69) -- LPModel.scene
theorem nN70 {sc : List Int32} : nCon (ktN sc) sc nc70 := ncheck_ok (W := nw70) ktN_cl nKn (fun _ hF => ktX_ok hF nN48) (ncheck_N nq70) -- LP$Reader.indexOf
theorem nN71 {sc : List Int32} : nCon (ktN sc) sc nc71 := ncheck_ok (W := nw71) ktN_cl nKn (fun _ hF => ktX_ok hF nN48) (ncheck_N nq71) -- LP$Reader.indexOf
theorem nN72 {sc : List Int32} : nCon (ktN sc) sc nc72 := ncheck_ok (W := nw72) ktN_cl nKn (fun _ hF => ktX_ok hF nN48) (ncheck_N nq72) -- LP$Reader.indexOf
theorem nN73 {sc : List Int32} : nCon (ktN sc) sc nc73 := ncheck_ok (W := nw73) ktN_cl (nKc nN27 (nKc nN28 (nKc nN29 (nKc nN31 (nKc nN70 (nKc nN71 (nKc nN72 nKn))))))) (fun _ hF => ktX_ok hF nN48) (ncheck_N nq73) -- LP$RunReader.reads
theorem nN74 {sc : List Int32} : nCon (ktN sc) sc nc74 := runs_ok (d := 26) (s := 61) ⟨by omega, ⟨rfl, rfl⟩, fun a h1 h2 => by
    rcases (by omega : a = 1 ∨ a = 2 ∨ a = 3 ∨ a = 4) with e | e | e | e
    all_goals (subst e; exact ⟨rfl, rfl, fun _ => rfl, fun _ => rfl⟩), (fun k hk => by
    rcases (by omega : k = 0 ∨ k = 1 ∨ k = 2) with e | e | e
    all_goals (subst e; exact ⟨rfl, rfl⟩)), rfl, fun a h1 h2 => by
    rcases (by omega : a = 1 ∨ a = 2 ∨ a = 3 ∨ a = 4) with e | e | e | e
    all_goals (subst e; exact ⟨rfl, rfl⟩), by omega⟩ (by decide +kernel) -- LP$Runs.takeOver
theorem nN75 {sc : List Int32} : nCon (ktN sc) sc nc75 := ncheck_ok (W := nw75) ktN_cl (nKc nN73 (nKc nN74 nKn)) (fun _ hF => ktX_ok hF nN48) (ncheck_N nq75) -- LP.runs
theorem nN76 {sc : List Int32} : nCon (ktN sc) sc nc76 := ncheck_ok (W := nw76) ktN_cl (nKc nN50 nKn) (fun _ hF => ktX_ok hF nN48) (ncheck_N nq76) -- LPModel.findHere
theorem nN77 {sc : List Int32} : nCon (ktN sc) sc nc77 := ncheck_ok (W := nw77) ktN_cl (nKc nN50 nKn) (fun _ hF => ktX_ok hF nN48) (ncheck_N nq77) -- LPModel.findHere
theorem nN78 {sc : List Int32} : nCon (ktN sc) sc nc78 := ncheck_ok (W := nw78) ktN_cl (nKc nN50 nKn) (fun _ hF => ktX_ok hF nN48) (ncheck_N nq78) -- LPModel.findHere
theorem nR79 {sc : List Int32} : nRich (ktN sc) sc rc79 := nrchk_ok (W := nw79) ktN_cl (nKc nN48 (nKc nN49 (nKc nN76 (nKc nN77 (nKc nN78 nKn))))) (fun _ hF => nXor_ok (nrcX_ok hF nR46) (nXor_ok (nrcX_ok hF nR46l) (ktX_ok hF nN48))) (nrchk_N nq79) -- LPModel.runStep
theorem nN80 {sc : List Int32} : nCon (ktN sc) sc nc80 := ncheck_ok (W := nw80) ktN_cl (nKc nN47 (nKc nN49 nKn)) (fun _ hF => nXor_ok (nrcX_ok hF nR79) (ktX_ok hF nN48)) (ncheck_N nq80) -- LPModel.runs
theorem nN81 {sc : List Int32} : nCon (ktN sc) sc nc81 := ncheck_ok (W := nw81) ktN_cl nKn (fun _ hF => ktX_ok hF nN48) (ncheck_N nq81) -- LP.fault
theorem nN82 {sc : List Int32} : nCon (ktN sc) sc nc82 := ncheck_ok (W := nw82) ktN_cl nKn (fun _ hF => ktX_ok hF nN48) (ncheck_N nq82) -- LPModel.fault
theorem nN83 {sc : List Int32} : nCon (ktN sc) sc nc83 := ncheck_ok (W := nw83) ktN_cl nKn (fun _ hF => ktX_ok hF nN48) (ncheck_N nq83) -- LP$World.printsOf
theorem nN84 {sc : List Int32} : nCon (ktN sc) sc nc84 := ncheck_ok (W := nw84) ktN_cl nKn (fun _ hF => ktX_ok hF nN48) (ncheck_N nq84) -- LP$World.allCoins
theorem nN85 {sc : List Int32} : nCon (ktN sc) sc nc85 := ncheck_ok (W := nw85) ktN_cl nKn (fun _ hF => ktX_ok hF nN48) (ncheck_N nq85) -- LP$Folk.setIn
theorem nN86 {sc : List Int32} : nCon (ktN sc) sc nc86 := ncheck_ok (W := nw86) ktN_cl (nKc nN85 nKn) (fun _ hF => ktX_ok hF nN48) (ncheck_N nq86) -- LP$Sights.shownBy
theorem nN87 {sc : List Int32} : nCon (ktN sc) sc nc87 := ncheck_ok (W := nw87) ktN_cl (nKc nN83 (nKc nN84 (nKc nN85 (nKc nN86 nKn)))) (fun _ hF => ktX_ok hF nN48) (ncheck_N nq87) -- LP.told
theorem nN88 {sc : List Int32} : nCon (ktN sc) sc nc88 := ncheck_ok (W := nw88) ktN_cl nKn (fun _ hF => ktX_ok hF nN48) (ncheck_N nq88) -- LPModel.personOf
theorem nN89 {sc : List Int32} : nCon (ktN sc) sc nc89 := ncheck_ok (W := nw89) ktN_cl nKn (fun _ hF => ktX_ok hF nN48) (ncheck_N nq89) -- LPModel.personOf
theorem nN90 {sc : List Int32} : nCon (ktN sc) sc nc90 := ncheck_ok (W := nw90) ktN_cl (nKc nN89 nKn) (fun _ hF => ktX_ok hF nN48) (ncheck_N nq90) -- LPModel.isHere
theorem nN91 {sc : List Int32} : nCon (ktN sc) sc nc91 := ncheck_ok (W := nw91) ktN_cl nKn (fun _ hF => ktX_ok hF nN48) (ncheck_N nq91) -- LPModel.personOf
theorem nN92 {sc : List Int32} : nCon (ktN sc) sc nc92 := ncheck_ok (W := nw92) ktN_cl (nKc nN91 nKn) (fun _ hF => ktX_ok hF nN48) (ncheck_N nq92) -- LPModel.isHere
theorem nN93 {sc : List Int32} : nCon (ktN sc) sc nc93 := ncheck_ok (W := nw93) ktN_cl (nKc nN88 (nKc nN90 (nKc nN92 nKn))) (fun _ hF => ktX_ok hF nN48) (ncheck_N nq93) -- LPModel.doesShow
theorem nN94 {sc : List Int32} : nCon (ktN sc) sc nc94 := ncheck_ok (W := nw94) ktN_cl (nKc nN93 nKn) (fun _ hF => ktX_ok hF nN48) (ncheck_N nq94) -- LPModel.shown
theorem nN95 {sc : List Int32} : nCon (ktN sc) sc nc95 := ncheck_ok (W := nw95) ktN_cl (nKc nN91 nKn) (fun _ hF => ktX_ok hF nN48) (ncheck_N nq95) -- LPModel.inState
theorem nN96 {sc : List Int32} : nCon (ktN sc) sc nc96 := ncheck_ok (W := nw96) ktN_cl nKn (fun _ hF => ktX_ok hF nN48) (ncheck_N nq96) -- LPModel.sumOf
theorem nN97 {sc : List Int32} : nCon (ktN sc) sc nc97 := ncheck_ok (W := nw97) ktN_cl nKn (fun _ hF => ktX_ok hF nN48) (ncheck_N nq97) -- LPModel.sumOf
theorem nN98 {sc : List Int32} : nCon (ktN sc) sc nc98 := ncheck_ok (W := nw98) ktN_cl nKn (fun _ hF => ktX_ok hF nN48) (ncheck_N nq98) -- LPModel.printsOf
theorem nN99 {sc : List Int32} : nCon (ktN sc) sc nc99 := ncheck_ok (W := nw99) ktN_cl (nKc nN94 (nKc nN95 (nKc nN96 (nKc nN97 (nKc nN98 nKn))))) (fun _ hF => ktX_ok hF nN48) (ncheck_N nq99) -- LPModel.told
theorem nN100 {sc : List Int32} : nCon (ktN sc) sc nc100 := ncheck_ok (W := nw100) ktN_cl nKn (fun _ hF => ktX_ok hF nN48) (ncheck_N nq100) -- LP$Folk.standing
theorem nN101 {sc : List Int32} : nCon (ktN sc) sc nc101 := ncheck_ok (W := nw101) ktN_cl (nKc nN100 nKn) (fun _ hF => ktX_ok hF nN48) (ncheck_N nq101) -- LP.who
theorem nN102 {sc : List Int32} : nCon (ktN sc) sc nc102 := ncheck_ok (W := nw102) ktN_cl nKn (fun _ hF => ktX_ok hF nN48) (ncheck_N nq102) -- LPModel.personOf
theorem nN103 {sc : List Int32} : nCon (ktN sc) sc nc103 := ncheck_ok (W := nw103) ktN_cl (nKc nN92 (nKc nN102 nKn)) (fun _ hF => ktX_ok hF nN48) (ncheck_N nq103) -- LPModel.whoAt
theorem nN104 {sc : List Int32} : nCon (ktN sc) sc nc104 := ncheck_ok (W := nw104) ktN_cl (nKc nN103 nKn) (fun _ hF => ktX_ok hF nN48) (ncheck_N nq104) -- LPModel.who
theorem nN105 {sc : List Int32} : nCon (ktN sc) sc nc105 := ncheck_ok (W := nw105) ktN_cl nKn (fun _ hF => ktX_ok hF nN48) (ncheck_N nq105) -- LP.wall
theorem nN106 {sc : List Int32} : nCon (ktN sc) sc nc106 := ncheck_ok (W := nw106) ktN_cl nKn (fun _ hF => ktX_ok hF nN48) (ncheck_N nq106) -- LPModel.wall
theorem nN107 {sc : List Int32} : nCon (ktN sc) sc nc107 := ncheck_ok (W := nw107) ktN_cl nKn (fun _ hF => ktX_ok hF nN48) (ncheck_N nq107) -- LP.person
theorem nN108 {sc : List Int32} : nCon (ktN sc) sc nc108 := ncheck_ok (W := nw108) ktN_cl nKn (fun _ hF => ktX_ok hF nN48) (ncheck_N nq108) -- LPModel.personOf
theorem nN109 {sc : List Int32} : nCon (ktN sc) sc nc109 := ncheck_ok (W := nw109) ktN_cl nKn (fun _ hF => ktX_ok hF nN48) (ncheck_N nq109) -- LPModel.personOf
theorem nN110 {sc : List Int32} : nCon (ktN sc) sc nc110 := ncheck_ok (W := nw110) ktN_cl nKn (fun _ hF => ktX_ok hF nN48) (ncheck_N nq110) -- LPModel.personOf
theorem nN111 {sc : List Int32} : nCon (ktN sc) sc nc111 := ncheck_ok (W := nw111) ktN_cl (nKc nN92 (nKc nN102 (nKc nN108 (nKc nN109 (nKc nN110 nKn))))) (fun _ hF => ktX_ok hF nN48) (ncheck_N nq111) -- LPModel.person
theorem nN112 {sc : List Int32} : nCon (ktN sc) sc nc112 := ncheck_ok (W := nw112) ktN_cl nKn (fun _ hF => ktX_ok hF nN48) (ncheck_N nq112) -- LP.stepOf
theorem nN113 {sc : List Int32} : nCon (ktN sc) sc nc113 := ncheck_ok (W := nw113) ktN_cl nKn (fun _ hF => ktX_ok hF nN48) (ncheck_N nq113) -- LPModel.personOf
theorem nN114 {sc : List Int32} : nCon (ktN sc) sc nc114 := ncheck_ok (W := nw114) ktN_cl (nKc nN110 (nKc nN113 nKn)) (fun _ hF => ktX_ok hF nN48) (ncheck_N nq114) -- LPModel.stepOf
theorem nN115 {sc : List Int32} : nCon (ktN sc) sc nc115 := ncheck_ok (W := nw115) ktN_cl nKn (fun _ hF => ktX_ok hF nN48) (ncheck_N nq115) -- LP.sight
theorem nN116 {sc : List Int32} : nCon (ktN sc) sc nc116 := ncheck_ok (W := nw116) ktN_cl nKn (fun _ hF => ktX_ok hF nN48) (ncheck_N nq116) -- LPModel.sight
theorem nN117 {sc : List Int32} : nCon (ktN sc) sc nc117 := ncheck_ok (W := nw117) ktN_cl nKn (fun _ hF => ktX_ok hF nN48) (ncheck_N nq117) -- LP.coins
theorem nN118 {sc : List Int32} : nCon (ktN sc) sc nc118 := ncheck_ok (W := nw118) ktN_cl nKn (fun _ hF => ktX_ok hF nN48) (ncheck_N nq118) -- LPModel.coins
theorem nN119 {sc : List Int32} : nCon (ktN sc) sc nc119 := ncheck_ok (W := nw119) ktN_cl nKn (fun _ hF => ktX_ok hF nN48) (ncheck_N nq119) -- LP.owner
theorem nN120 {sc : List Int32} : nCon (ktN sc) sc nc120 := ncheck_ok (W := nw120) ktN_cl nKn (fun _ hF => ktX_ok hF nN48) (ncheck_N nq120) -- LPModel.owner
theorem nN121 {sc : List Int32} : nCon (ktN sc) sc nc121 := ncheck_ok (W := nw121) ktN_cl (nKc nN83 nKn) (fun _ hF => ktX_ok hF nN48) (ncheck_N nq121) -- LP.prints
theorem nN122 {sc : List Int32} : nCon (ktN sc) sc nc122 := ncheck_ok (W := nw122) ktN_cl (nKc nN98 nKn) (fun _ hF => ktX_ok hF nN48) (ncheck_N nq122) -- LPModel.prints
theorem nN123 {sc : List Int32} : nCon (ktN sc) sc nc123 := ncheck_ok (W := nw123) ktN_cl nKn (fun _ hF => ktX_ok hF nN48) (ncheck_N nq123) -- LP$Folk.isFree
theorem nN124 {sc : List Int32} : nCon (ktN sc) sc nc124 := ncheck_ok (W := nw124) ktN_cl (nKc nN123 nKn) (fun _ hF => ktX_ok hF nN48) (ncheck_N nq124) -- LP$Folk.enter
theorem nN125 {sc : List Int32} : nCon (ktN sc) sc nc125 := ncheck_ok (W := nw125) ktN_cl nKn (fun _ hF => ktX_ok hF nN48) (ncheck_N nq125) -- LP$Room.beside
theorem nN126 {sc : List Int32} : nCon (ktN sc) sc nc126 := ncheck_ok (W := nw126) ktN_cl (nKc nN123 (nKc nN125 nKn)) (fun _ hF => ktX_ok hF nN48) (ncheck_N nq126) -- LP$Folk.walk
theorem nN127 {sc : List Int32} : nCon (ktN sc) sc nc127 := ncheck_ok (W := nw127) ktN_cl (nKc nN124 (nKc nN126 nKn)) (fun _ hF => ktX_ok hF nN48) (ncheck_N nq127) -- LP.buy
theorem nN128 {sc : List Int32} : nCon (ktN sc) sc nc128 := ncheck_ok (W := nw128) ktN_cl nKn (fun _ hF => ktX_ok hF nN48) (ncheck_N nq128) -- LPModel.stepFrom
theorem nN129 {sc : List Int32} : nCon (ktN sc) sc nc129 := ncheck_ok (W := nw129) ktN_cl (nKc nN103 (nKc nN128 nKn)) (fun _ hF => ktX_ok hF nN48) (ncheck_N nq129) -- LPModel.livesOn
theorem nN130 {sc : List Int32} : nCon (ktN sc) sc nc130 := ncheck_ok (W := nw130) ktN_cl (nKc nN103 (nKc nN128 nKn)) (fun _ hF => ktX_ok hF nN48) (ncheck_N nq130) -- LPModel.livesOn
theorem nN131 {sc : List Int32} : nCon (ktN sc) sc nc131 := ncheck_ok (W := nw131) ktN_cl (nKc nN103 (nKc nN128 nKn)) (fun _ hF => ktX_ok hF nN48) (ncheck_N nq131) -- LPModel.livesOn
theorem nN132 {sc : List Int32} : nCon (ktN sc) sc nc132 := ncheck_ok (W := nw132) ktN_cl (nKc nN103 (nKc nN128 nKn)) (fun _ hF => ktX_ok hF nN48) (ncheck_N nq132) -- LPModel.livesOn
theorem nN133 {sc : List Int32} : nCon (ktN sc) sc nc133 := ncheck_ok (W := nw133) ktN_cl (nKc nN103 (nKc nN128 nKn)) (fun _ hF => ktX_ok hF nN48) (ncheck_N nq133) -- LPModel.livesOn
theorem nN134 {sc : List Int32} : nCon (ktN sc) sc nc134 := ncheck_ok (W := nw134) ktN_cl (nKc nN129 (nKc nN130 (nKc nN131 (nKc nN132 (nKc nN133 nKn))))) (fun _ hF => ktX_ok hF nN48) (ncheck_N nq134) -- LPModel.buy
theorem nN135 {sc : List Int32} : nCon (ktN sc) sc nc135 := ncheck_ok (W := nw135) ktN_cl (nKc nN124 (nKc nN126 nKn)) (fun _ hF => ktX_ok hF nN48) (ncheck_N nq135) -- LP.skip
theorem nN136 {sc : List Int32} : nCon (ktN sc) sc nc136 := ncheck_ok (W := nw136) ktN_cl (nKc nN129 (nKc nN130 (nKc nN131 (nKc nN132 (nKc nN133 nKn))))) (fun _ hF => ktX_ok hF nN48) (ncheck_N nq136) -- LPModel.skip
theorem nN137 {sc : List Int32} : nCon (ktN sc) sc nc137 := ncheck_ok (W := nw137) ktN_cl nKn (fun _ hF => ktX_ok hF nN48) (ncheck_N nq137) -- LP.give
theorem nN138 {sc : List Int32} : nCon (ktN sc) sc nc138 := ncheck_ok (W := nw138) ktN_cl nKn (fun _ hF => ktX_ok hF nN48) (ncheck_N nq138) -- LPModel.give
theorem nN139 {sc : List Int32} : nCon (ktN sc) sc nc139 := ncheck_ok (W := nw139) ktN_cl nKn (fun _ hF => ktX_ok hF nN48) (ncheck_N nq139) -- LP.back
theorem nN140 {sc : List Int32} : nCon (ktN sc) sc nc140 := ncheck_ok (W := nw140) ktN_cl nKn (fun _ hF => ktX_ok hF nN48) (ncheck_N nq140) -- LPModel.back
theorem nN141 {sc : List Int32} : nCon (ktN sc) sc nc141 := ncheck_ok (W := nw141) ktN_cl nKn (fun _ hF => ktX_ok hF nN48) (ncheck_N nq141) -- LP.earn
theorem nN142 {sc : List Int32} : nCon (ktN sc) sc nc142 := ncheck_ok (W := nw142) ktN_cl nKn (fun _ hF => ktX_ok hF nN48) (ncheck_N nq142) -- LPModel.earn
theorem nN143 {sc : List Int32} : nCon (ktN sc) sc nc143 := ncheck_ok (W := nw143) ktN_cl nKn (fun _ hF => ktX_ok hF nN48) (ncheck_N nq143) -- LP.price
theorem nN144 {sc : List Int32} : nCon (ktN sc) sc nc144 := ncheck_ok (W := nw144) ktN_cl nKn (fun _ hF => ktX_ok hF nN48) (ncheck_N nq144) -- LPModel.price
theorem nN145 {sc : List Int32} : nCon (ktN sc) sc nc145 := ncheck_ok (W := nw145) ktN_cl (nKc nN100 nKn) (fun _ hF => ktX_ok hF nN48) (ncheck_N nq145) -- LP.build
theorem nN146 {sc : List Int32} : nCon (ktN sc) sc nc146 := ncheck_ok (W := nw146) ktN_cl (nKc nN103 nKn) (fun _ hF => ktX_ok hF nN48) (ncheck_N nq146) -- LPModel.build
theorem nN147 {sc : List Int32} : nCon (ktN sc) sc nc147 := ncheck_ok (W := nw147) ktN_cl nKn (fun _ hF => ktX_ok hF nN48) (ncheck_N nq147) -- LP.teach
theorem nN148 {sc : List Int32} : nCon (ktN sc) sc nc148 := ncheck_ok (W := nw148) ktN_cl (nKc nN110 nKn) (fun _ hF => ktX_ok hF nN48) (ncheck_N nq148) -- LPModel.teach
theorem nN149 {sc : List Int32} : nCon (ktN sc) sc nc149 := ncheck_ok (W := nw149) ktN_cl (nKc nN123 nKn) (fun _ hF => ktX_ok hF nN48) (ncheck_N nq149) -- LP.place
theorem nN150 {sc : List Int32} : nCon (ktN sc) sc nc150 := ncheck_ok (W := nw150) ktN_cl (nKc nN92 (nKc nN103 nKn)) (fun _ hF => ktX_ok hF nN48) (ncheck_N nq150) -- LPModel.place
theorem nN151 {sc : List Int32} : nCon (ktN sc) sc nc151 := ncheck_ok (W := nw151) ktN_cl nKn (fun _ hF => ktX_ok hF nN48) (ncheck_N nq151) -- LP.priceOf
theorem nN152 {sc : List Int32} : nCon (ktN sc) sc nc152 := ncheck_ok (W := nw152) ktN_cl nKn (fun _ hF => ktX_ok hF nN48) (ncheck_N nq152) -- LPModel.priceOf
theorem nN153 {sc : List Int32} : nCon (ktN sc) sc nc153 := ncheck_ok (W := nw153) ktN_cl nKn (fun _ hF => ktX_ok hF nN48) (ncheck_N nq153) -- LP.costOf
theorem nN154 {sc : List Int32} : nCon (ktN sc) sc nc154 := ncheck_ok (W := nw154) ktN_cl nKn (fun _ hF => ktX_ok hF nN48) (ncheck_N nq154) -- LPModel.costBy
theorem nN155 {sc : List Int32} : nCon (ktN sc) sc nc155 := ncheck_ok (W := nw155) ktN_cl (nKc nN154 nKn) (fun _ hF => ktX_ok hF nN48) (ncheck_N nq155) -- LPModel.costOf
theorem nN156 {sc : List Int32} : nCon (ktN sc) sc nc156 := ncheck_ok (W := nw156) ktN_cl nKn (fun _ hF => ktX_ok hF nN48) (ncheck_N nq156) -- LP$Folk.isFree
theorem nN157 {sc : List Int32} : nCon (ktN sc) sc nc157 := ncheck_ok (W := nw157) ktN_cl (nKc nN156 nKn) (fun _ hF => ktX_ok hF nN48) (ncheck_N nq157) -- LP$Folk.enter
theorem nN158 {sc : List Int32} : nCon (ktN sc) sc nc158 := ncheck_ok (W := nw158) ktN_cl (nKc nN125 (nKc nN156 nKn)) (fun _ hF => ktX_ok hF nN48) (ncheck_N nq158) -- LP$Folk.walk
theorem nN159 {sc : List Int32} : nCon (ktN sc) sc nc159 := ncheck_ok (W := nw159) ktN_cl (nKc nN157 (nKc nN158 nKn)) (fun _ hF => ktX_ok hF nN48) (ncheck_N nq159) -- LP$Ahead.goTo
theorem nN160 {sc : List Int32} : nCon (ktN sc) sc nc160 := ncheck_ok (W := nw160) ktN_cl (nKc nN159 nKn) (fun _ hF => ktX_ok hF nN48) (ncheck_N nq160) -- LP.placeIn
theorem nN161 {sc : List Int32} : nCon (ktN sc) sc nc161 := keeps_ok (t := 3720) (by omega) (by omega) nS3720k.1 nS3720k.2 -- LPModel.keeps
theorem nN162 {sc : List Int32} : nCon (ktN sc) sc nc162 := restores_ok (t := 3720) (by omega) (by omega) nS3720r.1 nS3720r.2 nS37205 -- LPModel.restores
theorem nN163 {sc : List Int32} : nCon (ktN sc) sc nc163 := ncheck_ok (W := nw163) ktN_cl (nKc nN92 (nKc nN102 (nKc nN129 (nKc nN130 (nKc nN131 (nKc nN132 (nKc nN133 (nKc nN161 (nKc nN162 nKn))))))))) (fun _ hF => ktX_ok hF nN48) (ncheck_N nq163) -- LPModel.placeIn
theorem nN164 {sc : List Int32} : nCon (ktN sc) sc nc164 := ncheck_ok (W := nw164) ktN_cl nKn (fun _ hF => ktX_ok hF nN48) (ncheck_N nq164) -- LP$Folk.standing
theorem nN165 {sc : List Int32} : nCon (ktN sc) sc nc165 := ncheck_ok (W := nw165) ktN_cl (nKc nN159 (nKc nN164 nKn)) (fun _ hF => ktX_ok hF nN48) (ncheck_N nq165) -- LP.whoIn
theorem nN166 {sc : List Int32} : nCon (ktN sc) sc nc166 := ncheck_ok (W := nw166) ktN_cl (nKc nN103 (nKc nN129 (nKc nN130 (nKc nN131 (nKc nN132 (nKc nN133 (nKc nN161 (nKc nN162 nKn)))))))) (fun _ hF => ktX_ok hF nN48) (ncheck_N nq166) -- LPModel.whoIn
theorem nN167 {sc : List Int32} : nCon (ktN sc) sc nc167 := ncheck_ok (W := nw167) ktN_cl nKn (fun _ hF => ktX_ok hF nN48) (ncheck_N nq167) -- LP$Folk.setIn
theorem nN168 {sc : List Int32} : nCon (ktN sc) sc nc168 := ncheck_ok (W := nw168) ktN_cl (nKc nN167 nKn) (fun _ hF => ktX_ok hF nN48) (ncheck_N nq168) -- LP$Sights.shownBy
theorem nN169 {sc : List Int32} : nCon (ktN sc) sc nc169 := ncheck_ok (W := nw169) ktN_cl (nKc nN159 (nKc nN168 nKn)) (fun _ hF => ktX_ok hF nN48) (ncheck_N nq169) -- LP.showsIn
theorem nN170 {sc : List Int32} : nCon (ktN sc) sc nc170 := ncheck_ok (W := nw170) ktN_cl (nKc nN94 (nKc nN129 (nKc nN130 (nKc nN131 (nKc nN132 (nKc nN133 (nKc nN161 (nKc nN162 nKn)))))))) (fun _ hF => ktX_ok hF nN48) (ncheck_N nq170) -- LPModel.showsIn
theorem nN171 {sc : List Int32} : nCon (ktN sc) sc nc171 := ncheck_ok (W := nw171) ktN_cl (nKc nN157 (nKc nN158 (nKc nN167 nKn))) (fun _ hF => ktX_ok hF nN48) (ncheck_N nq171) -- LP$Ahead.firstShowing
theorem nN172 {sc : List Int32} : nCon (ktN sc) sc nc172 := ncheck_ok (W := nw172) ktN_cl (nKc nN171 nKn) (fun _ hF => ktX_ok hF nN48) (ncheck_N nq172) -- LP.first
theorem nN173 {sc : List Int32} : nCon (ktN sc) sc nc173 := ncheck_ok (W := nw173) ktN_cl (nKc nN94 (nKc nN129 (nKc nN130 (nKc nN131 (nKc nN132 (nKc nN133 (nKc nN161 (nKc nN162 nKn)))))))) (fun _ hF => ktX_ok hF nN48) (ncheck_N nq173) -- LPModel.laysShows
theorem nN174 {sc : List Int32} : nCon (ktN sc) sc nc174 := ncheck_ok (W := nw174) ktN_cl (nKc nN173 nKn) (fun _ hF => ktX_ok hF nN48) (ncheck_N nq174) -- LPModel.firstOf
theorem nN175 {sc : List Int32} : nCon (ktN sc) sc nc175 := ncheck_ok (W := nw175) ktN_cl (nKc nN174 nKn) (fun _ hF => ktX_ok hF nN48) (ncheck_N nq175) -- LPModel.first
theorem nN176 {sc : List Int32} : nCon (ktN sc) sc nc176 := ncheck_ok (W := nw176) ktN_cl (nKc nN171 nKn) (fun _ hF => ktX_ok hF nN48) (ncheck_N nq176) -- LP.cost
theorem nN177 {sc : List Int32} : nCon (ktN sc) sc nc177 := ncheck_ok (W := nw177) ktN_cl (nKc nN154 (nKc nN174 nKn)) (fun _ hF => ktX_ok hF nN48) (ncheck_N nq177) -- LPModel.cost
theorem nN178 {sc : List Int32} : nCon (ktN sc) sc nc178 := ncheck_ok (W := nw178) ktN_cl (nKc nN157 (nKc nN158 (nKc nN168 nKn))) (fun _ hF => ktX_ok hF nN48) (ncheck_N nq178) -- LP$Ahead.lookAtSights
theorem nN179 {sc : List Int32} : nCon (ktN sc) sc nc179 := ncheck_ok (W := nw179) ktN_cl (nKc nN178 nKn) (fun _ hF => ktX_ok hF nN48) (ncheck_N nq179) -- LP.often
theorem nN180 {sc : List Int32} : nCon (ktN sc) sc nc180 := ncheck_ok (W := nw180) ktN_cl (nKc nN173 nKn) (fun _ hF => ktX_ok hF nN48) (ncheck_N nq180) -- LPModel.often
theorem nN181 {sc : List Int32} : nCon (ktN sc) sc nc181 := ncheck_ok (W := nw181) ktN_cl (nKc nN178 nKn) (fun _ hF => ktX_ok hF nN48) (ncheck_N nq181) -- LP.longest
theorem nN182 {sc : List Int32} : nCon (ktN sc) sc nc182 := ncheck_ok (W := nw182) ktN_cl (nKc nN173 nKn) (fun _ hF => ktX_ok hF nN48) (ncheck_N nq182) -- LPModel.longest
theorem nN183 {sc : List Int32} : nCon (ktN sc) sc nc183 := ncheck_ok (W := nw183) ktN_cl (nKc nN157 (nKc nN158 nKn)) (fun _ hF => ktX_ok hF nN48) (ncheck_N nq183) -- LP$Ahead.lookAtPerson
theorem nN184 {sc : List Int32} : nCon (ktN sc) sc nc184 := ncheck_ok (W := nw184) ktN_cl (nKc nN183 nKn) (fun _ hF => ktX_ok hF nN48) (ncheck_N nq184) -- LP.gone
theorem nN185 {sc : List Int32} : nCon (ktN sc) sc nc185 := ncheck_ok (W := nw185) ktN_cl (nKc nN92 (nKc nN129 (nKc nN130 (nKc nN131 (nKc nN132 (nKc nN133 (nKc nN161 (nKc nN162 nKn)))))))) (fun _ hF => ktX_ok hF nN48) (ncheck_N nq185) -- LPModel.gone
theorem nN186 {sc : List Int32} : nCon (ktN sc) sc nc186 := ncheck_ok (W := nw186) ktN_cl nKn (fun _ hF => ktX_ok hF nN48) (ncheck_N nq186) -- LP$Folk.isAs
theorem nN187 {sc : List Int32} : nCon (ktN sc) sc nc187 := ncheck_ok (W := nw187) ktN_cl (nKc nN157 (nKc nN158 (nKc nN186 nKn))) (fun _ hF => ktX_ok hF nN48) (ncheck_N nq187) -- LP.again
theorem nN188 {sc : List Int32} : nCon (ktN sc) sc nc188 := ncheck_ok (W := nw188) ktN_cl (nKc nN92 nKn) (fun _ hF => ktX_ok hF nN48) (ncheck_N nq188) -- LPModel.isAsIn
theorem nN189 {sc : List Int32} : nCon (ktN sc) sc nc189 := ncheck_ok (W := nw189) ktN_cl (nKc nN129 (nKc nN130 (nKc nN131 (nKc nN132 (nKc nN133 (nKc nN161 (nKc nN162 (nKc nN188 nKn)))))))) (fun _ hF => ktX_ok hF nN48) (ncheck_N nq189) -- LPModel.again
theorem nN190 {sc : List Int32} : nCon (ktN sc) sc nc190 := ncheck_ok (W := nw190) ktN_cl (nKc nN183 nKn) (fun _ hF => ktX_ok hF nN48) (ncheck_N nq190) -- LP.stays
theorem nN191 {sc : List Int32} : nCon (ktN sc) sc nc191 := ncheck_ok (W := nw191) ktN_cl (nKc nN92 (nKc nN102 (nKc nN129 (nKc nN130 (nKc nN131 (nKc nN132 (nKc nN133 (nKc nN161 (nKc nN162 nKn))))))))) (fun _ hF => ktX_ok hF nN48) (ncheck_N nq191) -- LPModel.stays
theorem nN192 {sc : List Int32} : nCon (ktN sc) sc nc192 := ncheck_ok (W := nw192) ktN_cl nKn (fun _ hF => ktX_ok hF nN48) (ncheck_N nq192) -- Arrays.fill
theorem nN193 {sc : List Int32} : nCon (ktN sc) sc nc193 := ncheck_ok (W := nw193) ktN_cl nKn (fun _ hF => ktX_ok hF nN48) (ncheck_N nq193) -- LP$Ahead.addPrint
theorem nN194 {sc : List Int32} : nCon (ktN sc) sc nc194 := ncheck_ok (W := nw194) ktN_cl (nKc nN178 (nKc nN192 (nKc nN193 nKn))) (fun _ hF => ktX_ok hF nN48) (ncheck_N nq194) -- LP$Ahead.bestCover
theorem nN195 {sc : List Int32} : nCon (ktN sc) sc nc195 := ncheck_ok (W := nw195) ktN_cl (nKc nN194 nKn) (fun _ hF => ktX_ok hF nN48) (ncheck_N nq195) -- LP.cover
theorem nN196 {sc : List Int32} : nCon (ktN sc) sc nc196 := ncheck_ok (W := nw196) ktN_cl nKn (fun _ hF => ktX_ok hF nN48) (ncheck_N nq196) -- LPModel.costOfSet
theorem nN197 {sc : List Int32} : nCon (ktN sc) sc nc197 := ncheck_ok (W := nw197) ktN_cl nKn (fun _ hF => ktX_ok hF nN48) (ncheck_N nq197) -- LPModel.bits
theorem nN198 {sc : List Int32} : nCon (ktN sc) sc nc198 := ncheck_ok (W := nw198) ktN_cl (nKc nN173 (nKc nN196 (nKc nN197 nKn))) (fun _ hF => ktX_ok hF nN48) (ncheck_N nq198) -- LPModel.covering
theorem nN199 {sc : List Int32} : nCon (ktN sc) sc nc199 := ncheck_ok (W := nw199) ktN_cl (nKc nN196 (nKc nN198 nKn)) (fun _ hF => ktX_ok hF nN48) (ncheck_N nq199) -- LPModel.cover
theorem nN200 {sc : List Int32} : nCon (ktN sc) sc nc200 := ncheck_ok (W := nw200) ktN_cl (nKc nN194 nKn) (fun _ hF => ktX_ok hF nN48) (ncheck_N nq200) -- LP.coverSet
theorem nN201 {sc : List Int32} : nCon (ktN sc) sc nc201 := ncheck_ok (W := nw201) ktN_cl (nKc nN198 nKn) (fun _ hF => ktX_ok hF nN48) (ncheck_N nq201) -- LPModel.coverSet
theorem nN202 {sc : List Int32} : nCon (ktN sc) sc nc202 := ncheck_ok (W := nw202) ktN_cl (nKc nN178 nKn) (fun _ hF => ktX_ok hF nN48) (ncheck_N nq202) -- LP.share
theorem nN203 {sc : List Int32} : nCon (ktN sc) sc nc203 := ncheck_ok (W := nw203) ktN_cl (nKc nN173 (nKc nN197 nKn)) (fun _ hF => ktX_ok hF nN48) (ncheck_N nq203) -- LPModel.share
theorem nN204 {sc : List Int32} : nCon (ktN sc) sc nc204 := ncheck_ok (W := nw204) ktN_cl (nKc nN171 nKn) (fun _ hF => ktX_ok hF nN48) (ncheck_N nq204) -- LP.turns
theorem nN205 {sc : List Int32} : nCon (ktN sc) sc nc205 := ncheck_ok (W := nw205) ktN_cl (nKc nN174 nKn) (fun _ hF => ktX_ok hF nN48) (ncheck_N nq205) -- LPModel.turns
theorem nN206 {sc : List Int32} : nCon (ktN sc) sc nc206 := ncheck_ok (W := nw206) ktN_cl (nKc nN171 nKn) (fun _ hF => ktX_ok hF nN48) (ncheck_N nq206) -- LP.turnsFirst
theorem nN207 {sc : List Int32} : nCon (ktN sc) sc nc207 := ncheck_ok (W := nw207) ktN_cl (nKc nN174 nKn) (fun _ hF => ktX_ok hF nN48) (ncheck_N nq207) -- LPModel.turnsFirst
theorem nN208 {sc : List Int32} : nCon (ktN sc) sc nc208 := ncheck_ok (W := nw208) ktN_cl nKn (fun _ hF => ktX_ok hF nN48) (ncheck_N nq208) -- LP.tellFraction
theorem nN209 {sc : List Int32} : nCon (ktN sc) sc nc209 := ncheck_ok (W := nw209) ktN_cl (nKc nN208 nKn) (fun _ hF => ktX_ok hF nN48) (ncheck_N nq209) -- LP.comesBack
theorem nN210 {sc : List Int32} : nCon (ktN sc) sc nc210 := ncheck_ok (W := nw210) ktN_cl nKn (fun _ hF => ktX_ok hF nN48) (ncheck_N nq210) -- LPModel.tellsBy
theorem nN211 {sc : List Int32} : nCon (ktN sc) sc nc211 := ncheck_ok (W := nw211) ktN_cl (nKc nN210 nKn) (fun _ hF => ktX_ok hF nN48) (ncheck_N nq211) -- LPModel.comesBack
theorem nN212 {sc : List Int32} : nCon (ktN sc) sc nc212 := ncheck_ok (W := nw212) ktN_cl nKn (fun _ hF => ktX_ok hF nN48) (ncheck_N nq212) -- LP.mostAffordable
theorem nN213 {sc : List Int32} : nCon (ktN sc) sc nc213 := ncheck_ok (W := nw213) ktN_cl (nKc nN212 nKn) (fun _ hF => ktX_ok hF nN48) (ncheck_N nq213) -- LP.afford
theorem nN214 {sc : List Int32} : nCon (ktN sc) sc nc214 := ncheck_ok (W := nw214) ktN_cl (nKc nN154 nKn) (fun _ hF => ktX_ok hF nN48) (ncheck_N nq214) -- LPModel.affordOf
theorem nN215 {sc : List Int32} : nCon (ktN sc) sc nc215 := ncheck_ok (W := nw215) ktN_cl (nKc nN214 nKn) (fun _ hF => ktX_ok hF nN48) (ncheck_N nq215) -- LPModel.afford
theorem nN216 {sc : List Int32} : nCon (ktN sc) sc nc216 := ncheck_ok (W := nw216) ktN_cl (nKc nN178 (nKc nN212 nKn)) (fun _ hF => ktX_ok hF nN48) (ncheck_N nq216) -- LP.sees
theorem nN217 {sc : List Int32} : nCon (ktN sc) sc nc217 := ncheck_ok (W := nw217) ktN_cl (nKc nN173 (nKc nN214 nKn)) (fun _ hF => ktX_ok hF nN48) (ncheck_N nq217) -- LPModel.sees
theorem nN218 {sc : List Int32} : nCon (ktN sc) sc nc218 := ncheck_ok (W := nw218) ktN_cl nKn (fun _ hF => ktX_ok hF nN48) (ncheck_N nq218) -- LP$Tracks.load
theorem nN219 {sc : List Int32} : nCon (ktN sc) sc nc219 := ncheck_ok (W := nw219) ktN_cl nKn (fun _ hF => ktX_ok hF nN48) (ncheck_N nq219) -- LP$Tracks.load
theorem nN220 {sc : List Int32} : nCon (ktN sc) sc nc220 := ncheck_ok (W := nw220) ktN_cl nKn (fun _ hF => ktX_ok hF nN48) (ncheck_N nq220) -- LP$Tracks.load
theorem nN221 {sc : List Int32} : nCon (ktN sc) sc nc221 := ncheck_ok (W := nw221) ktN_cl nKn (fun _ hF => ktX_ok hF nN48) (ncheck_N nq221) -- LP$Tracks.load
theorem nN222 {sc : List Int32} : nCon (ktN sc) sc nc222 := ncheck_ok (W := nw222) ktN_cl nKn (fun _ hF => ktX_ok hF nN48) (ncheck_N nq222) -- LP$Tracks.writeRow
theorem nN223 {sc : List Int32} : nCon (ktN sc) sc nc223 := ncheck_ok (W := nw223) ktN_cl (nKc nN125 nKn) (fun _ hF => ktX_ok hF nN48) (ncheck_N nq223) -- LP$Room.goneAlone
theorem nN224 {sc : List Int32} : nCon (ktN sc) sc nc224 := ncheck_ok (W := nw224) ktN_cl (nKc nN223 nKn) (fun _ hF => ktX_ok hF nN48) (ncheck_N nq224) -- LP$Tracks.leadsAlong
theorem nN225 {sc : List Int32} : nCon (ktN sc) sc nc225 := ncheck_ok (W := nw225) ktN_cl (nKc nN222 (nKc nN224 nKn)) (fun _ hF => ktX_ok hF nN48) (ncheck_N nq225) -- LP$Tracks.countRows
theorem nN226 {sc : List Int32} : nCon (ktN sc) sc nc226 := ncheck_ok (W := nw226) ktN_cl (nKc nN218 (nKc nN219 (nKc nN220 (nKc nN221 (nKc nN225 nKn))))) (fun _ hF => ktX_ok hF nN48) (ncheck_N nq226) -- LP.steps
theorem nN227 {sc : List Int32} : nCon (ktN sc) sc nc227 := ncheck_ok (W := nw227) ktN_cl nKn (fun _ hF => ktX_ok hF nN48) (ncheck_N nq227) -- LPModel.wrongCells
theorem nN228 {sc : List Int32} : nCon (ktN sc) sc nc228 := ncheck_ok (W := nw228) ktN_cl nKn (fun _ hF => ktX_ok hF nN48) (ncheck_N nq228) -- LPModel.wrongCells
theorem nN229 {sc : List Int32} : nCon (ktN sc) sc nc229 := ncheck_ok (W := nw229) ktN_cl nKn (fun _ hF => ktX_ok hF nN48) (ncheck_N nq229) -- LPModel.wrongCells
theorem nN230 {sc : List Int32} : nCon (ktN sc) sc nc230 := ncheck_ok (W := nw230) ktN_cl nKn (fun _ hF => ktX_ok hF nN48) (ncheck_N nq230) -- LPModel.stepFrom
theorem nN231 {sc : List Int32} : nCon (ktN sc) sc nc231 := ncheck_ok (W := nw231) ktN_cl (nKc nN230 nKn) (fun _ hF => ktX_ok hF nN48) (ncheck_N nq231) -- LPModel.doesFit
theorem nN232 {sc : List Int32} : nCon (ktN sc) sc nc232 := ncheck_ok (W := nw232) ktN_cl (nKc nN231 nKn) (fun _ hF => ktX_ok hF nN48) (ncheck_N nq232) -- LPModel.rowsOf
theorem nN233 {sc : List Int32} : nCon (ktN sc) sc nc233 := ncheck_ok (W := nw233) ktN_cl (nKc nN227 (nKc nN228 (nKc nN229 (nKc nN232 nKn)))) (fun _ hF => ktX_ok hF nN48) (ncheck_N nq233) -- LPModel.steps
theorem nN234 {sc : List Int32} : nCon (ktN sc) sc nc234 := ncheck_ok (W := nw234) ktN_cl (nKc nN218 (nKc nN219 (nKc nN220 (nKc nN221 (nKc nN225 nKn))))) (fun _ hF => ktX_ok hF nN48) (ncheck_N nq234) -- LP.stepsAt
theorem nN235 {sc : List Int32} : nCon (ktN sc) sc nc235 := ncheck_ok (W := nw235) ktN_cl (nKc nN227 (nKc nN228 (nKc nN229 (nKc nN232 nKn)))) (fun _ hF => ktX_ok hF nN48) (ncheck_N nq235) -- LPModel.stepsAt
theorem nN236 {sc : List Int32} : nCon (ktN sc) sc nc236 := ncheck_ok (W := nw236) ktN_cl (nKc nN218 (nKc nN219 (nKc nN220 (nKc nN221 (nKc nN225 nKn))))) (fun _ hF => ktX_ok hF nN48) (ncheck_N nq236) -- LP.period
theorem nN237 {sc : List Int32} : nCon (ktN sc) sc nc237 := ncheck_ok (W := nw237) ktN_cl (nKc nN227 (nKc nN228 (nKc nN229 (nKc nN232 nKn)))) (fun _ hF => ktX_ok hF nN48) (ncheck_N nq237) -- LPModel.period
theorem nN238 {sc : List Int32} : nCon (ktN sc) sc nc238 := ncheck_ok (W := nw238) ktN_cl (nKc nN183 nKn) (fun _ hF => ktX_ok hF nN48) (ncheck_N nq238) -- LP.copyWay
theorem nN239 {sc : List Int32} : nCon (ktN sc) sc nc239 := ncheck_ok (W := nw239) ktN_cl (nKc nN92 (nKc nN102 (nKc nN129 (nKc nN130 (nKc nN131 (nKc nN132 (nKc nN133 (nKc nN161 (nKc nN162 nKn))))))))) (fun _ hF => ktX_ok hF nN48) (ncheck_N nq239) -- LPModel.copyWay
theorem nN240 {sc : List Int32} : nCon (ktN sc) sc nc240 := ncheck_ok (W := nw240) ktN_cl nKn (fun _ hF => ktX_ok hF nN48) (ncheck_N nq240) -- Arrays.fill
theorem nN241 {sc : List Int32} : nCon (ktN sc) sc nc241 := ncheck_ok (W := nw241) ktN_cl nKn (fun _ hF => ktX_ok hF nN48) (ncheck_N nq241) -- Arrays.fill
theorem nN242 {sc : List Int32} : nCon (ktN sc) sc nc242 := ncheck_ok (W := nw242) ktN_cl (nKc nN125 nKn) (fun _ hF => ktX_ok hF nN48) (ncheck_N nq242) -- LP$Room.goneAlone
theorem nN243 {sc : List Int32} : nCon (ktN sc) sc nc243 := ncheck_ok (W := nw243) ktN_cl (nKc nN240 (nKc nN241 (nKc nN242 nKn))) (fun _ hF => ktX_ok hF nN48) (ncheck_N nq243) -- LP$Tracks.goAllWays
theorem nN244 {sc : List Int32} : nCon (ktN sc) sc nc244 := ncheck_ok (W := nw244) ktN_cl (nKc nN240 (nKc nN241 (nKc nN243 nKn))) (fun _ hF => ktX_ok hF nN48) (ncheck_N nq244) -- LP$Tracks.countWays
theorem nN245 {sc : List Int32} : nCon (ktN sc) sc nc245 := ncheck_ok (W := nw245) ktN_cl (nKc nN244 nKn) (fun _ hF => ktX_ok hF nN48) (ncheck_N nq245) -- LP.between
theorem nN246 {sc : List Int32} : nCon (ktN sc) sc nc246 := ncheck_ok (W := nw246) ktN_cl (nKc nN128 nKn) (fun _ hF => ktX_ok hF nN48) (ncheck_N nq246) -- LPModel.between
theorem nN247 {sc : List Int32} : nCon (ktN sc) sc nc247 := ncheck_ok (W := nw247) ktN_cl (nKc nN242 nKn) (fun _ hF => ktX_ok hF nN48) (ncheck_N nq247) -- LP$Tracks.originSet
theorem nN248 {sc : List Int32} : nCon (ktN sc) sc nc248 := ncheck_ok (W := nw248) ktN_cl (nKc nN247 nKn) (fun _ hF => ktX_ok hF nN48) (ncheck_N nq248) -- LP.origin
theorem nN249 {sc : List Int32} : nCon (ktN sc) sc nc249 := ncheck_ok (W := nw249) ktN_cl (nKc nN128 nKn) (fun _ hF => ktX_ok hF nN48) (ncheck_N nq249) -- LPModel.origin
theorem nN250 {sc : List Int32} : nCon (ktN sc) sc nc250 := ncheck_ok (W := nw250) ktN_cl nKn (fun _ hF => ktX_ok hF nN48) (ncheck_N nq250) -- LP$World.latestPrintOf
theorem nN251 {sc : List Int32} : nCon (ktN sc) sc nc251 := ncheck_ok (W := nw251) ktN_cl (nKc nN124 (nKc nN126 nKn)) (fun _ hF => ktX_ok hF nN48) (ncheck_N nq251) -- LP$Runner.buyAll
theorem nN252 {sc : List Int32} : nCon (ktN sc) sc nc252 := ncheck_ok (W := nw252) ktN_cl (nKc nN124 (nKc nN126 nKn)) (fun _ hF => ktX_ok hF nN48) (ncheck_N nq252) -- LP$Runner.skipAll
theorem nN253 {sc : List Int32} : nCon (ktN sc) sc nc253 := ncheck_ok (W := nw253) ktN_cl (nKc nN85 (nKc nN250 (nKc nN251 (nKc nN252 nKn)))) (fun _ hF => ktX_ok hF nN48) (ncheck_N nq253) -- LP$Runner.run
theorem nN254 {sc : List Int32} : nCon (ktN sc) sc nc254 := ncheck_ok (W := nw254) ktN_cl (nKc nN253 nKn) (fun _ hF => ktX_ok hF nN48) (ncheck_N nq254) -- LP.live
theorem nN255 {sc : List Int32} : nCon (ktN sc) sc nc255 := ncheck_ok (W := nw255) ktN_cl (nKc nN129 (nKc nN130 (nKc nN131 (nKc nN132 (nKc nN133 (nKc nN154 nKn)))))) (fun _ hF => ktX_ok hF nN48) (ncheck_N nq255) -- LPModel.buysBy
theorem nN256 {sc : List Int32} : nCon (ktN sc) sc nc256 := ncheck_ok (W := nw256) ktN_cl nKn (fun _ hF => ktX_ok hF nN48) (ncheck_N nq256) -- LPModel.givesBy
theorem nN257 {sc : List Int32} : nCon (ktN sc) sc nc257 := behind_ok -- LPModel.behindEnds
theorem nN258 {sc : List Int32} : nCon (ktN sc) sc nc258 := ncheck_ok (W := nw258) ktN_cl (nKc nN90 (nKc nN93 (nKc nN129 (nKc nN130 (nKc nN131 (nKc nN132 (nKc nN133 (nKc nN255 (nKc nN256 (nKc nN257 nKn)))))))))) (fun _ hF => ktX_ok hF nN48) (ncheck_N nq258) -- LPModel.lives
theorem nN259 {sc : List Int32} : nCon (ktN sc) sc nc259 := ncheck_ok (W := nw259) ktN_cl (nKc nN258 nKn) (fun _ hF => ktX_ok hF nN48) (ncheck_N nq259) -- LPModel.live
theorem nN260 {sc : List Int32} : nCon (ktN sc) sc nc260 := ncheck_ok (W := nw260) ktN_cl nKn (fun _ hF => ktX_ok hF nN48) (ncheck_N nq260) -- LP.lived
theorem nN261 {sc : List Int32} : nCon (ktN sc) sc nc261 := ncheck_ok (W := nw261) ktN_cl nKn (fun _ hF => ktX_ok hF nN48) (ncheck_N nq261) -- LPModel.lived
theorem nN262 {sc : List Int32} : nCon (ktN sc) sc nc262 := ncheck_ok (W := nw262) ktN_cl nKn (fun _ hF => ktX_ok hF nN48) (ncheck_N nq262) -- LP$World.allCoins
theorem nN263 {sc : List Int32} : nCon (ktN sc) sc nc263 := ncheck_ok (W := nw263) ktN_cl nKn (fun _ hF => ktX_ok hF nN48) (ncheck_N nq263) -- LP$World.latestPrintOf
theorem nN264 {sc : List Int32} : nCon (ktN sc) sc nc264 := ncheck_ok (W := nw264) ktN_cl nKn (fun _ hF => ktX_ok hF nN48) (ncheck_N nq264) -- LP$Folk.setIn
theorem nN265 {sc : List Int32} : nCon (ktN sc) sc nc265 := ncheck_ok (W := nw265) ktN_cl nKn (fun _ hF => ktX_ok hF nN48) (ncheck_N nq265) -- LP$Folk.isFree
theorem nN266 {sc : List Int32} : nCon (ktN sc) sc nc266 := ncheck_ok (W := nw266) ktN_cl (nKc nN265 nKn) (fun _ hF => ktX_ok hF nN48) (ncheck_N nq266) -- LP$Folk.enter
theorem nN267 {sc : List Int32} : nCon (ktN sc) sc nc267 := ncheck_ok (W := nw267) ktN_cl nKn (fun _ hF => ktX_ok hF nN48) (ncheck_N nq267) -- LP$Room.beside
theorem nN268 {sc : List Int32} : nCon (ktN sc) sc nc268 := ncheck_ok (W := nw268) ktN_cl (nKc nN265 (nKc nN267 nKn)) (fun _ hF => ktX_ok hF nN48) (ncheck_N nq268) -- LP$Folk.walk
theorem nN269 {sc : List Int32} : nCon (ktN sc) sc nc269 := ncheck_ok (W := nw269) ktN_cl (nKc nN266 (nKc nN268 nKn)) (fun _ hF => ktX_ok hF nN48) (ncheck_N nq269) -- LP$Runner.buyAll
theorem nN270 {sc : List Int32} : nCon (ktN sc) sc nc270 := ncheck_ok (W := nw270) ktN_cl (nKc nN266 (nKc nN268 nKn)) (fun _ hF => ktX_ok hF nN48) (ncheck_N nq270) -- LP$Runner.skipAll
theorem nN271 {sc : List Int32} : nCon (ktN sc) sc nc271 := ncheck_ok (W := nw271) ktN_cl (nKc nN263 (nKc nN264 (nKc nN269 (nKc nN270 nKn)))) (fun _ hF => ktX_ok hF nN48) (ncheck_N nq271) -- LP$Runner.run
theorem nN272 {sc : List Int32} : nCon (ktN sc) sc nc272 := runs_ok (d := 84) (s := 26) ⟨by omega, ⟨rfl, rfl⟩, fun a h1 h2 => by
    rcases (by omega : a = 1 ∨ a = 2 ∨ a = 3 ∨ a = 4) with e | e | e | e
    all_goals (subst e; exact ⟨rfl, rfl, fun _ => rfl, fun _ => rfl⟩), (fun k hk => by
    rcases (by omega : k = 0 ∨ k = 1 ∨ k = 2) with e | e | e
    all_goals (subst e; exact ⟨rfl, rfl⟩)), rfl, fun a h1 h2 => by
    rcases (by omega : a = 1 ∨ a = 2 ∨ a = 3 ∨ a = 4) with e | e | e | e
    all_goals (subst e; exact ⟨rfl, rfl⟩), by omega⟩ (by decide +kernel) -- LP$Runs.takeOver
theorem nN273 {sc : List Int32} : nCon (ktN sc) sc nc273 := sights_ok (d := 79) (s := 21) ⟨by omega, ⟨rfl, rfl⟩, fun a h1 h2 => by
    rcases (by omega : a = 2 ∨ a = 3 ∨ a = 4) with e | e | e
    all_goals (subst e; exact ⟨rfl, rfl, fun _ => rfl, fun _ => rfl⟩), ⟨rfl, rfl, fun _ => ⟨rfl, rfl⟩⟩, ⟨rfl, rfl⟩, fun a h1 h2 => by
    rcases (by omega : a = 1 ∨ a = 2 ∨ a = 3 ∨ a = 4) with e | e | e | e
    all_goals (subst e; exact ⟨rfl, rfl⟩), by omega⟩ (by decide +kernel) -- LP$Sights.takeOver
theorem nN274 {sc : List Int32} : nCon (ktN sc) sc nc274 := ncheck_ok (W := nw274) ktN_cl (nKc nN208 (nKc nN262 (nKc nN271 (nKc nN272 (nKc nN273 nKn))))) (fun _ hF => ktX_ok hF nN48) (ncheck_N nq274) -- LP.mean
theorem nN275 {sc : List Int32} : nCon (ktN sc) sc nc275 := keeps_ok (t := 3100) (by omega) (by omega) nS3100k.1 nS3100k.2 -- LPModel.keeps
theorem nN276 {sc : List Int32} : nCon (ktN sc) sc nc276 := restores_ok (t := 3100) (by omega) (by omega) nS3100r.1 nS3100r.2 nS31005 -- LPModel.restores
theorem nN277 {sc : List Int32} : nCon (ktN sc) sc nc277 := ncheck_ok (W := nw277) ktN_cl (nKc nN97 (nKc nN210 (nKc nN258 (nKc nN275 (nKc nN276 nKn))))) (fun _ hF => ktX_ok hF nN48) (ncheck_N nq277) -- LPModel.mean
theorem nN278 {sc : List Int32} : nCon (ktN sc) sc nc278 := runs_ok (d := 129) (s := 26) ⟨by omega, ⟨rfl, rfl⟩, fun a h1 h2 => by
    rcases (by omega : a = 1 ∨ a = 2 ∨ a = 3 ∨ a = 4) with e | e | e | e
    all_goals (subst e; exact ⟨rfl, rfl, fun _ => rfl, fun _ => rfl⟩), (fun k hk => by
    rcases (by omega : k = 0 ∨ k = 1 ∨ k = 2) with e | e | e
    all_goals (subst e; exact ⟨rfl, rfl⟩)), rfl, fun a h1 h2 => by
    rcases (by omega : a = 1 ∨ a = 2 ∨ a = 3 ∨ a = 4) with e | e | e | e
    all_goals (subst e; exact ⟨rfl, rfl⟩), by omega⟩ (by decide +kernel) -- LP$Runs.takeOver
theorem nN279 {sc : List Int32} : nCon (ktN sc) sc nc279 := runs_ok (d := 153) (s := 26) ⟨by omega, ⟨rfl, rfl⟩, fun a h1 h2 => by
    rcases (by omega : a = 1 ∨ a = 2 ∨ a = 3 ∨ a = 4) with e | e | e | e
    all_goals (subst e; exact ⟨rfl, rfl, fun _ => rfl, fun _ => rfl⟩), (fun k hk => by
    rcases (by omega : k = 0 ∨ k = 1 ∨ k = 2) with e | e | e
    all_goals (subst e; exact ⟨rfl, rfl⟩)), rfl, fun a h1 h2 => by
    rcases (by omega : a = 1 ∨ a = 2 ∨ a = 3 ∨ a = 4) with e | e | e | e
    all_goals (subst e; exact ⟨rfl, rfl⟩), by omega⟩ (by decide +kernel) -- LP$Runs.takeOver
theorem nN280 {sc : List Int32} : nCon (ktN sc) sc nc280 := runs_ok (d := 177) (s := 26) ⟨by omega, ⟨rfl, rfl⟩, fun a h1 h2 => by
    rcases (by omega : a = 1 ∨ a = 2 ∨ a = 3 ∨ a = 4) with e | e | e | e
    all_goals (subst e; exact ⟨rfl, rfl, fun _ => rfl, fun _ => rfl⟩), (fun k hk => by
    rcases (by omega : k = 0 ∨ k = 1 ∨ k = 2) with e | e | e
    all_goals (subst e; exact ⟨rfl, rfl⟩)), rfl, fun a h1 h2 => by
    rcases (by omega : a = 1 ∨ a = 2 ∨ a = 3 ∨ a = 4) with e | e | e | e
    all_goals (subst e; exact ⟨rfl, rfl⟩), by omega⟩ (by decide +kernel) -- LP$Runs.takeOver
theorem nN281 {sc : List Int32} : nCon (ktN sc) sc nc281 := sights_ok (d := 124) (s := 21) ⟨by omega, ⟨rfl, rfl⟩, fun a h1 h2 => by
    rcases (by omega : a = 2 ∨ a = 3 ∨ a = 4) with e | e | e
    all_goals (subst e; exact ⟨rfl, rfl, fun _ => rfl, fun _ => rfl⟩), ⟨rfl, rfl, fun _ => ⟨rfl, rfl⟩⟩, ⟨rfl, rfl⟩, fun a h1 h2 => by
    rcases (by omega : a = 1 ∨ a = 2 ∨ a = 3 ∨ a = 4) with e | e | e | e
    all_goals (subst e; exact ⟨rfl, rfl⟩), by omega⟩ (by decide +kernel) -- LP$Sights.takeOver
theorem nN282 {sc : List Int32} : nCon (ktN sc) sc nc282 := sights_ok (d := 148) (s := 21) ⟨by omega, ⟨rfl, rfl⟩, fun a h1 h2 => by
    rcases (by omega : a = 2 ∨ a = 3 ∨ a = 4) with e | e | e
    all_goals (subst e; exact ⟨rfl, rfl, fun _ => rfl, fun _ => rfl⟩), ⟨rfl, rfl, fun _ => ⟨rfl, rfl⟩⟩, ⟨rfl, rfl⟩, fun a h1 h2 => by
    rcases (by omega : a = 1 ∨ a = 2 ∨ a = 3 ∨ a = 4) with e | e | e | e
    all_goals (subst e; exact ⟨rfl, rfl⟩), by omega⟩ (by decide +kernel) -- LP$Sights.takeOver
theorem nN283 {sc : List Int32} : nCon (ktN sc) sc nc283 := sights_ok (d := 172) (s := 21) ⟨by omega, ⟨rfl, rfl⟩, fun a h1 h2 => by
    rcases (by omega : a = 2 ∨ a = 3 ∨ a = 4) with e | e | e
    all_goals (subst e; exact ⟨rfl, rfl, fun _ => rfl, fun _ => rfl⟩), ⟨rfl, rfl, fun _ => ⟨rfl, rfl⟩⟩, ⟨rfl, rfl⟩, fun a h1 h2 => by
    rcases (by omega : a = 1 ∨ a = 2 ∨ a = 3 ∨ a = 4) with e | e | e | e
    all_goals (subst e; exact ⟨rfl, rfl⟩), by omega⟩ (by decide +kernel) -- LP$Sights.takeOver
theorem nN284 {sc : List Int32} : nCon (ktN sc) sc nc284 := ncheck_ok (W := nw284) ktN_cl (nKc nN278 (nKc nN279 (nKc nN280 (nKc nN281 (nKc nN282 (nKc nN283 nKn)))))) (fun _ hF => ktX_ok hF nN48) (ncheck_N nq284) -- LP.mark
theorem nN285 {sc : List Int32} : nCon (ktN sc) sc nc285 := copies_in -- LPModel.copies
theorem nN286 {sc : List Int32} : nCon (ktN sc) sc nc286 := ncheck_ok (W := nw286) ktN_cl (nKc nN285 nKn) (fun _ hF => ktX_ok hF nN48) (ncheck_N nq286) -- LPModel.mark
theorem nN287 {sc : List Int32} : nCon (ktN sc) sc nc287 := runs_ok (d := 26) (s := 129) ⟨by omega, ⟨rfl, rfl⟩, fun a h1 h2 => by
    rcases (by omega : a = 1 ∨ a = 2 ∨ a = 3 ∨ a = 4) with e | e | e | e
    all_goals (subst e; exact ⟨rfl, rfl, fun _ => rfl, fun _ => rfl⟩), (fun k hk => by
    rcases (by omega : k = 0 ∨ k = 1 ∨ k = 2) with e | e | e
    all_goals (subst e; exact ⟨rfl, rfl⟩)), rfl, fun a h1 h2 => by
    rcases (by omega : a = 1 ∨ a = 2 ∨ a = 3 ∨ a = 4) with e | e | e | e
    all_goals (subst e; exact ⟨rfl, rfl⟩), by omega⟩ (by decide +kernel) -- LP$Runs.takeOver
theorem nN288 {sc : List Int32} : nCon (ktN sc) sc nc288 := runs_ok (d := 26) (s := 153) ⟨by omega, ⟨rfl, rfl⟩, fun a h1 h2 => by
    rcases (by omega : a = 1 ∨ a = 2 ∨ a = 3 ∨ a = 4) with e | e | e | e
    all_goals (subst e; exact ⟨rfl, rfl, fun _ => rfl, fun _ => rfl⟩), (fun k hk => by
    rcases (by omega : k = 0 ∨ k = 1 ∨ k = 2) with e | e | e
    all_goals (subst e; exact ⟨rfl, rfl⟩)), rfl, fun a h1 h2 => by
    rcases (by omega : a = 1 ∨ a = 2 ∨ a = 3 ∨ a = 4) with e | e | e | e
    all_goals (subst e; exact ⟨rfl, rfl⟩), by omega⟩ (by decide +kernel) -- LP$Runs.takeOver
theorem nN289 {sc : List Int32} : nCon (ktN sc) sc nc289 := runs_ok (d := 26) (s := 177) ⟨by omega, ⟨rfl, rfl⟩, fun a h1 h2 => by
    rcases (by omega : a = 1 ∨ a = 2 ∨ a = 3 ∨ a = 4) with e | e | e | e
    all_goals (subst e; exact ⟨rfl, rfl, fun _ => rfl, fun _ => rfl⟩), (fun k hk => by
    rcases (by omega : k = 0 ∨ k = 1 ∨ k = 2) with e | e | e
    all_goals (subst e; exact ⟨rfl, rfl⟩)), rfl, fun a h1 h2 => by
    rcases (by omega : a = 1 ∨ a = 2 ∨ a = 3 ∨ a = 4) with e | e | e | e
    all_goals (subst e; exact ⟨rfl, rfl⟩), by omega⟩ (by decide +kernel) -- LP$Runs.takeOver
theorem nN290 {sc : List Int32} : nCon (ktN sc) sc nc290 := sights_ok (d := 21) (s := 124) ⟨by omega, ⟨rfl, rfl⟩, fun a h1 h2 => by
    rcases (by omega : a = 2 ∨ a = 3 ∨ a = 4) with e | e | e
    all_goals (subst e; exact ⟨rfl, rfl, fun _ => rfl, fun _ => rfl⟩), ⟨rfl, rfl, fun _ => ⟨rfl, rfl⟩⟩, ⟨rfl, rfl⟩, fun a h1 h2 => by
    rcases (by omega : a = 1 ∨ a = 2 ∨ a = 3 ∨ a = 4) with e | e | e | e
    all_goals (subst e; exact ⟨rfl, rfl⟩), by omega⟩ (by decide +kernel) -- LP$Sights.takeOver
theorem nN291 {sc : List Int32} : nCon (ktN sc) sc nc291 := sights_ok (d := 21) (s := 148) ⟨by omega, ⟨rfl, rfl⟩, fun a h1 h2 => by
    rcases (by omega : a = 2 ∨ a = 3 ∨ a = 4) with e | e | e
    all_goals (subst e; exact ⟨rfl, rfl, fun _ => rfl, fun _ => rfl⟩), ⟨rfl, rfl, fun _ => ⟨rfl, rfl⟩⟩, ⟨rfl, rfl⟩, fun a h1 h2 => by
    rcases (by omega : a = 1 ∨ a = 2 ∨ a = 3 ∨ a = 4) with e | e | e | e
    all_goals (subst e; exact ⟨rfl, rfl⟩), by omega⟩ (by decide +kernel) -- LP$Sights.takeOver
theorem nN292 {sc : List Int32} : nCon (ktN sc) sc nc292 := sights_ok (d := 21) (s := 172) ⟨by omega, ⟨rfl, rfl⟩, fun a h1 h2 => by
    rcases (by omega : a = 2 ∨ a = 3 ∨ a = 4) with e | e | e
    all_goals (subst e; exact ⟨rfl, rfl, fun _ => rfl, fun _ => rfl⟩), ⟨rfl, rfl, fun _ => ⟨rfl, rfl⟩⟩, ⟨rfl, rfl⟩, fun a h1 h2 => by
    rcases (by omega : a = 1 ∨ a = 2 ∨ a = 3 ∨ a = 4) with e | e | e | e
    all_goals (subst e; exact ⟨rfl, rfl⟩), by omega⟩ (by decide +kernel) -- LP$Sights.takeOver
theorem nN293 {sc : List Int32} : nCon (ktN sc) sc nc293 := ncheck_ok (W := nw293) ktN_cl (nKc nN287 (nKc nN288 (nKc nN289 (nKc nN290 (nKc nN291 (nKc nN292 nKn)))))) (fun _ hF => ktX_ok hF nN48) (ncheck_N nq293) -- LP.undo
theorem nN294 {sc : List Int32} : nCon (ktN sc) sc nc294 := copies_out -- LPModel.copies
theorem nN295 {sc : List Int32} : nCon (ktN sc) sc nc295 := ncheck_ok (W := nw295) ktN_cl (nKc nN294 nKn) (fun _ hF => ktX_ok hF nN48) (ncheck_N nq295) -- LPModel.undo
