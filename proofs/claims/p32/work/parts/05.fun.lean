/-! the methods, lifted by program (wip/whole/gen/gen.py) out of their bytecode: functions of ints and of the memory; none: a step that is not allowed, or no end within ed_N rounds of a loop -/
abbrev rmX0_begin : Room := { frames := 0, cells := 0, slots := 0, locals := 0 }
abbrev rmX0_copyFrom : Room := { frames := 0, cells := 0, slots := 0, locals := 0 }
abbrev rmX0_hasTopic : Room := { frames := 0, cells := 0, slots := 0, locals := 0 }
abbrev rmX0_canGetCopy : Room := { frames := 0, cells := 0, slots := 0, locals := 0 }
abbrev rmX1_begin : Room := { frames := 0, cells := 0, slots := 0, locals := 0 }
abbrev rmX1_isOver : Room := { frames := 0, cells := 0, slots := 0, locals := 0 }
abbrev rmX1_copyFrom : Room := { frames := 0, cells := 0, slots := 0, locals := 0 }
abbrev rmX2_dropOldest : Room := { frames := 0, cells := 0, slots := 0, locals := 0 }
abbrev rmX8_isPlace : Room := { frames := 0, cells := 0, slots := 0, locals := 0 }
abbrev rmX3_copyFrom : Room := { frames := 2, cells := 0, slots := 0, locals := 51 }
abbrev rmX5_storyAt : Room := { frames := 1, cells := 0, slots := 0, locals := 21 }
abbrev rmX6_copyFrom : Room := { frames := 2, cells := 0, slots := 0, locals := 51 }
abbrev rmX5_copyStories : Room := { frames := 3, cells := 0, slots := 0, locals := 72 }
abbrev rmX5_clientAt : Room := { frames := 1, cells := 0, slots := 0, locals := 21 }
abbrev rmX5_copyClients : Room := { frames := 2, cells := 0, slots := 0, locals := 42 }
abbrev rmX5_copyMade : Room := { frames := 1, cells := 0, slots := 0, locals := 21 }
abbrev rmX5_copyCopies : Room := { frames := 2, cells := 0, slots := 0, locals := 42 }
abbrev rmX5_personAt : Room := { frames := 1, cells := 0, slots := 0, locals := 21 }
abbrev rmX5_copyPersons : Room := { frames := 2, cells := 0, slots := 0, locals := 42 }
abbrev rmX5_copyFrom : Room := { frames := 4, cells := 0, slots := 0, locals := 96 }
abbrev rmX2_remember : Room := { frames := 5, cells := 0, slots := 0, locals := 117 }
abbrev rmX2_takeLatest : Room := { frames := 5, cells := 0, slots := 0, locals := 117 }
abbrev rmX3_add : Room := { frames := 1, cells := 0, slots := 0, locals := 21 }
abbrev rmX3_part : Room := { frames := 1, cells := 0, slots := 0, locals := 21 }
abbrev rmX4_addShare : Room := { frames := 0, cells := 0, slots := 0, locals := 0 }
abbrev rmX5_copyFor : Room := { frames := 2, cells := 0, slots := 0, locals := 42 }
abbrev rmX5_startDay : Room := { frames := 2, cells := 0, slots := 0, locals := 42 }
abbrev rmX5_planCopy : Room := { frames := 2, cells := 0, slots := 0, locals := 42 }
abbrev rmX5_publish : Room := { frames := 3, cells := 0, slots := 0, locals := 66 }
abbrev rmX6_authorAt : Room := { frames := 1, cells := 0, slots := 0, locals := 21 }
abbrev rmX5_bill : Room := { frames := 2, cells := 0, slots := 0, locals := 42 }
abbrev rmX5_startUse : Room := { frames := 3, cells := 0, slots := 0, locals := 68 }
abbrev rmX5_useEndsAt : Room := { frames := 0, cells := 0, slots := 0, locals := 0 }
abbrev rmX5_killNoticeAt : Room := { frames := 2, cells := 0, slots := 0, locals := 42 }
abbrev rmX6_correctedAt : Room := { frames := 1, cells := 0, slots := 0, locals := 21 }
abbrev rmX5_correctionsDue : Room := { frames := 2, cells := 0, slots := 0, locals := 42 }
abbrev rmX5_reach : Room := { frames := 3, cells := 0, slots := 0, locals := 67 }
abbrev rmX5_moveOn : Room := { frames := 4, cells := 0, slots := 0, locals := 91 }
abbrev rmX5_passHour : Room := { frames := 5, cells := 0, slots := 0, locals := 114 }
abbrev rmX5_correctionsMissing : Room := { frames := 2, cells := 0, slots := 0, locals := 42 }
abbrev rmX5_nextCorrectionAt : Room := { frames := 3, cells := 0, slots := 0, locals := 64 }
abbrev rmX5_clientsFor : Room := { frames := 2, cells := 0, slots := 0, locals := 42 }
abbrev rmX5_copiesThatCame : Room := { frames := 2, cells := 0, slots := 0, locals := 42 }
abbrev rmX5_fits : Room := { frames := 0, cells := 0, slots := 0, locals := 0 }
abbrev rmX5_copiesOf : Room := { frames := 2, cells := 0, slots := 0, locals := 42 }
abbrev rmX5_upToDateCopies : Room := { frames := 3, cells := 0, slots := 0, locals := 64 }
abbrev rmX5_copiesWithCorrectionsDue : Room := { frames := 3, cells := 0, slots := 0, locals := 67 }
abbrev rmX6_isBy : Room := { frames := 2, cells := 0, slots := 0, locals := 42 }
abbrev rmX5_storiesBy : Room := { frames := 3, cells := 0, slots := 0, locals := 64 }
abbrev rmX5_copiesInUseBy : Room := { frames := 3, cells := 0, slots := 0, locals := 68 }
abbrev rmX5_authors : Room := { frames := 4, cells := 0, slots := 0, locals := 88 }
abbrev rmX6_begin : Room := { frames := 2, cells := 0, slots := 0, locals := 51 }
abbrev rmX6_addCorrection : Room := { frames := 1, cells := 0, slots := 0, locals := 21 }
abbrev rmX6_letterAt : Room := { frames := 1, cells := 0, slots := 0, locals := 21 }
abbrev rmX7_add : Room := { frames := 1, cells := 0, slots := 0, locals := 21 }
abbrev rmX7_sign : Room := { frames := 1, cells := 0, slots := 0, locals := 21 }
abbrev rmX8_isBetween : Room := { frames := 0, cells := 0, slots := 0, locals := 0 }
abbrev rmX7_digit : Room := { frames := 2, cells := 0, slots := 0, locals := 41 }
abbrev rmX7_readTopic : Room := { frames := 3, cells := 0, slots := 0, locals := 61 }
abbrev rmX7_readSign : Room := { frames := 2, cells := 0, slots := 0, locals := 41 }
abbrev rmX7_isInByline : Room := { frames := 0, cells := 0, slots := 0, locals := 0 }
abbrev rmX7_readPerson : Room := { frames := 3, cells := 0, slots := 0, locals := 61 }
abbrev rmX7_readByline : Room := { frames := 4, cells := 0, slots := 0, locals := 82 }
abbrev rmX7_readEmbargo : Room := { frames := 3, cells := 0, slots := 0, locals := 61 }
abbrev rmX7_readSlug : Room := { frames := 2, cells := 0, slots := 0, locals := 41 }
abbrev rmX7_parse : Room := { frames := 5, cells := 0, slots := 0, locals := 103 }
abbrev rmX8_addClient : Room := { frames := 6, cells := 0, slots := 0, locals := 139 }
abbrev rmX8_setTopics : Room := { frames := 6, cells := 0, slots := 0, locals := 139 }
abbrev rmX8_setUp : Room := { frames := 6, cells := 0, slots := 0, locals := 139 }
abbrev rmX8_setUse : Room := { frames := 6, cells := 0, slots := 0, locals := 139 }
abbrev rmX8_pay : Room := { frames := 6, cells := 0, slots := 0, locals := 139 }
abbrev rmX8_readStory : Room := { frames := 6, cells := 0, slots := 0, locals := 139 }
abbrev rmX8_release : Room := { frames := 6, cells := 0, slots := 0, locals := 139 }
abbrev rmX8_hold : Room := { frames := 6, cells := 0, slots := 0, locals := 139 }
abbrev rmX8_setEmbargo : Room := { frames := 6, cells := 0, slots := 0, locals := 139 }
abbrev rmX8_correct : Room := { frames := 6, cells := 0, slots := 0, locals := 139 }
abbrev rmX8_kill : Room := { frames := 6, cells := 0, slots := 0, locals := 139 }
abbrev rmX8_pass : Room := { frames := 6, cells := 0, slots := 0, locals := 139 }
abbrev rmX8_type : Room := { frames := 2, cells := 0, slots := 0, locals := 42 }
abbrev rmX8_clearText : Room := { frames := 0, cells := 0, slots := 0, locals := 0 }
abbrev rmX8_undo : Room := { frames := 6, cells := 0, slots := 0, locals := 139 }
abbrev rmX8_keep : Room := { frames := 5, cells := 0, slots := 0, locals := 117 }
abbrev rmX8_restore : Room := { frames := 6, cells := 0, slots := 0, locals := 139 }
abbrev rmX8_story : Room := { frames := 4, cells := 0, slots := 0, locals := 88 }
abbrev rmX8_byline : Room := { frames := 2, cells := 0, slots := 0, locals := 42 }
abbrev rmX8_slugChar : Room := { frames := 2, cells := 0, slots := 0, locals := 42 }
abbrev rmX8_correction : Room := { frames := 2, cells := 0, slots := 0, locals := 42 }
abbrev rmX8_client : Room := { frames := 3, cells := 0, slots := 0, locals := 68 }
abbrev rmX8_person : Room := { frames := 4, cells := 0, slots := 0, locals := 92 }
abbrev rmX8_copy : Room := { frames := 4, cells := 0, slots := 0, locals := 87 }
abbrev rmX8_copyAt : Room := { frames := 2, cells := 0, slots := 0, locals := 42 }
abbrev rmX8_carriedIn : Room := { frames := 6, cells := 0, slots := 0, locals := 136 }
abbrev rmX8_wouldCome : Room := { frames := 6, cells := 0, slots := 0, locals := 136 }
abbrev rmX8_event : Room := { frames := 2, cells := 0, slots := 0, locals := 44 }
abbrev rmX8_count : Room := { frames := 5, cells := 0, slots := 0, locals := 110 }
abbrev rmX9_in : Room := { frames := 0, cells := 0, slots := 0, locals := 0 }
abbrev rmX9_record : Room := { frames := 0, cells := 0, slots := 0, locals := 0 }
abbrev rmX9_isClient : Room := { frames := 1, cells := 0, slots := 0, locals := 22 }
abbrev rmX9_isStory : Room := { frames := 1, cells := 0, slots := 0, locals := 22 }
abbrev rmX9_clientAt : Room := { frames := 0, cells := 0, slots := 0, locals := 0 }
abbrev rmX9_storyAt : Room := { frames := 0, cells := 0, slots := 0, locals := 0 }
abbrev rmX9_atCopy : Room := { frames := 0, cells := 0, slots := 0, locals := 0 }
abbrev rmX9_ofClient : Room := { frames := 1, cells := 0, slots := 0, locals := 21 }
abbrev rmX9_ofStory : Room := { frames := 1, cells := 0, slots := 0, locals := 21 }
abbrev rmX9_ofCopy : Room := { frames := 1, cells := 0, slots := 0, locals := 21 }
abbrev rmX9_log : Room := { frames := 0, cells := 0, slots := 0, locals := 0 }
abbrev rmX9_wants : Room := { frames := 2, cells := 0, slots := 0, locals := 43 }
abbrev rmX9_publish : Room := { frames := 3, cells := 0, slots := 0, locals := 65 }
abbrev rmX9_share : Room := { frames := 0, cells := 0, slots := 0, locals := 0 }
abbrev rmX9_bill : Room := { frames := 2, cells := 0, slots := 0, locals := 43 }
abbrev rmX9_useEnds : Room := { frames := 2, cells := 0, slots := 0, locals := 43 }
abbrev rmX9_killDue : Room := { frames := 2, cells := 0, slots := 0, locals := 43 }
abbrev rmX9_correctionDue : Room := { frames := 2, cells := 0, slots := 0, locals := 43 }
abbrev rmX9_goOn : Room := { frames := 3, cells := 0, slots := 0, locals := 68 }
abbrev rmX9_oneHour : Room := { frames := 4, cells := 0, slots := 0, locals := 93 }
abbrev rmX9_addClient : Room := { frames := 1, cells := 0, slots := 0, locals := 22 }
abbrev rmX9_becomes : Room := { frames := 1, cells := 0, slots := 0, locals := 21 }
abbrev rmX9_setTopics : Room := { frames := 2, cells := 0, slots := 0, locals := 44 }
abbrev rmX9_setUp : Room := { frames := 2, cells := 0, slots := 0, locals := 44 }
abbrev rmX9_setUse : Room := { frames := 2, cells := 0, slots := 0, locals := 44 }
abbrev rmX9_pay : Room := { frames := 2, cells := 0, slots := 0, locals := 43 }
abbrev rmX9_type : Room := { frames := 0, cells := 0, slots := 0, locals := 0 }
abbrev rmX9_clearText : Room := { frames := 0, cells := 0, slots := 0, locals := 0 }
abbrev rmX9_sign : Room := { frames := 0, cells := 0, slots := 0, locals := 0 }
abbrev rmX9_digitTo : Room := { frames := 1, cells := 0, slots := 0, locals := 22 }
abbrev rmX9_readPersons : Room := { frames := 2, cells := 0, slots := 0, locals := 44 }
abbrev rmX9_readHour : Room := { frames := 2, cells := 0, slots := 0, locals := 44 }
abbrev rmX9_readSlug : Room := { frames := 1, cells := 0, slots := 0, locals := 22 }
abbrev rmX9_readText : Room := { frames := 3, cells := 0, slots := 0, locals := 68 }
abbrev rmX9_readStory : Room := { frames := 4, cells := 0, slots := 0, locals := 89 }
abbrev rmX9_release : Room := { frames := 3, cells := 0, slots := 0, locals := 65 }
abbrev rmX9_hold : Room := { frames := 2, cells := 0, slots := 0, locals := 43 }
abbrev rmX9_setEmbargo : Room := { frames := 2, cells := 0, slots := 0, locals := 44 }
abbrev rmX9_correct : Room := { frames := 2, cells := 0, slots := 0, locals := 43 }
abbrev rmX9_inUse : Room := { frames := 2, cells := 0, slots := 0, locals := 43 }
abbrev rmX9_kill : Room := { frames := 3, cells := 0, slots := 0, locals := 67 }
abbrev rmX9_pass : Room := { frames := 5, cells := 0, slots := 0, locals := 115 }
abbrev rmX9_undo : Room := { frames := 0, cells := 0, slots := 0, locals := 0 }
abbrev rmX9_keep : Room := { frames := 0, cells := 0, slots := 0, locals := 0 }
abbrev rmX9_restore : Room := { frames := 1, cells := 0, slots := 0, locals := 21 }
abbrev rmX9_story : Room := { frames := 3, cells := 0, slots := 0, locals := 67 }
abbrev rmX9_rowOf : Room := { frames := 2, cells := 0, slots := 0, locals := 43 }
abbrev rmX9_byline : Room := { frames := 3, cells := 0, slots := 0, locals := 67 }
abbrev rmX9_slugChar : Room := { frames := 3, cells := 0, slots := 0, locals := 67 }
abbrev rmX9_correction : Room := { frames := 3, cells := 0, slots := 0, locals := 67 }
abbrev rmX9_inUseFor : Room := { frames := 2, cells := 0, slots := 0, locals := 43 }
abbrev rmX9_client : Room := { frames := 3, cells := 0, slots := 0, locals := 66 }
abbrev rmX9_wrote : Room := { frames := 2, cells := 0, slots := 0, locals := 43 }
abbrev rmX9_person : Room := { frames := 3, cells := 0, slots := 0, locals := 67 }
abbrev rmX9_copyOf : Room := { frames := 2, cells := 0, slots := 0, locals := 43 }
abbrev rmX9_dueNow : Room := { frames := 3, cells := 0, slots := 0, locals := 65 }
abbrev rmX9_copy : Room := { frames := 4, cells := 0, slots := 0, locals := 88 }
abbrev rmX9_copyAt : Room := { frames := 2, cells := 0, slots := 0, locals := 43 }
abbrev rmX9_bringBack : Room := { frames := 0, cells := 0, slots := 0, locals := 0 }
abbrev rmX9_setAside : Room := { frames := 0, cells := 0, slots := 0, locals := 0 }
abbrev rmX9_carriedIn : Room := { frames := 5, cells := 0, slots := 0, locals := 115 }
abbrev rmX9_wouldCome : Room := { frames := 5, cells := 0, slots := 0, locals := 115 }
abbrev rmX9_event : Room := { frames := 1, cells := 0, slots := 0, locals := 22 }
abbrev rmX9_personsOfAll : Room := { frames := 3, cells := 0, slots := 0, locals := 67 }
abbrev rmX9_count : Room := { frames := 4, cells := 0, slots := 0, locals := 91 }
abbrev rmX8_copyRow : Room := { frames := 1, cells := 0, slots := 0, locals := 30 }
def f_X0_begin (n0 : Nat) (x1 x2 x3 x4 x5 : Int32) (σ : ed_SM) : Option ed_SM :=
  ed_t (ed_up σ 11 n0 0 x1) (fun σ1 => ed_t (ed_up σ1 11 n0 1 x2) (fun σ2 => ed_t (ed_up σ2 11 n0 2 x3) (fun σ3 => ed_t (ed_up σ3 11 n0 3 x4) (fun σ4 => ed_t (ed_up σ4 11 n0 4 x5) (fun σ5 => ed_t (ed_up σ5 11 n0 5 1) (fun σ6 => ed_t (ed_up σ6 11 n0 6 0) (fun σ7 => ed_t (ed_up σ7 11 n0 7 0) (fun σ8 => ed_t (ed_up σ8 11 n0 8 0) (fun σ9 => ed_t (ed_up σ9 11 n0 9 0) (fun σ10 => (some σ10)))))))))))
def f_X0_copyFrom (n0 n1 : Nat) (τ : ed_SM) (σ : ed_SM) : Option ed_SM :=
  ed_t (ed_up σ 11 n0 0 (τ 11 n1 0)) (fun σ1 => ed_t (ed_up σ1 11 n0 1 (τ 11 n1 1)) (fun σ2 => ed_t (ed_up σ2 11 n0 2 (τ 11 n1 2)) (fun σ3 => ed_t (ed_up σ3 11 n0 3 (τ 11 n1 3)) (fun σ4 => ed_t (ed_up σ4 11 n0 4 (τ 11 n1 4)) (fun σ5 => ed_g (ed_bo (τ 11 n1 5)) ( ed_t (ed_up σ5 11 n0 5 (τ 11 n1 5)) (fun σ7 => ed_t (ed_up σ7 11 n0 6 (τ 11 n1 6)) (fun σ8 => ed_t (ed_up σ8 11 n0 7 (τ 11 n1 7)) (fun σ9 => ed_t (ed_up σ9 11 n0 8 (τ 11 n1 8)) (fun σ10 => ed_t (ed_up σ10 11 n0 9 (τ 11 n1 9)) (fun σ11 => (some σ11))))))))))))
def f_X0_hasTopic (n0 : Nat) (x1 : Int32) (σ : ed_SM) : Int32 :=
  (if (((σ 11 n0 0) >>> (x1 &&& 31)) &&& 1) = 1 then 1 else 0)
def f_X0_canGetCopy (n0 : Nat) (σ : ed_SM) : Int32 :=
  (if (σ 11 n0 5) = 0 then 0 else (if (σ 11 n0 3) ≤ (σ 11 n0 7) then 0 else 1))
def f_X1_begin (n0 : Nat) (x1 x2 x3 : Int32) (σ : ed_SM) : Option ed_SM :=
  ed_t (ed_up σ 12 n0 0 x1) (fun σ1 => ed_t (ed_up σ1 12 n0 1 x2) (fun σ2 => ed_t (ed_up σ2 12 n0 2 0) (fun σ3 => ed_t (ed_up σ3 12 n0 3 x3) (fun σ4 => ed_t (ed_up σ4 12 n0 4 (-5)) (fun σ5 => ed_t (ed_up σ5 12 n0 5 (-5)) (fun σ6 => (some σ6)))))))
def f_X1_isOver (n0 : Nat) (σ : ed_SM) : Int32 :=
  (if (σ 12 n0 2) = 0 then 0 else (if (σ 12 n0 2) = 1 then 0 else 1))
def f_X1_copyFrom (n0 n1 : Nat) (τ : ed_SM) (σ : ed_SM) : Option ed_SM :=
  ed_t (ed_up σ 12 n0 0 (τ 12 n1 0)) (fun σ1 => ed_t (ed_up σ1 12 n0 1 (τ 12 n1 1)) (fun σ2 => ed_t (ed_up σ2 12 n0 2 (τ 12 n1 2)) (fun σ3 => ed_t (ed_up σ3 12 n0 3 (τ 12 n1 3)) (fun σ4 => ed_t (ed_up σ4 12 n0 4 (τ 12 n1 4)) (fun σ5 => ed_t (ed_up σ5 12 n0 5 (τ 12 n1 5)) (fun σ6 => (some σ6)))))))
def f_X2_dropOldest_2  : Nat → Int32 → ed_CM → Option ed_CM
  | 0, _, _ => none
  | n + 1, x1, μ =>
    (if 4 ≤ (x1 + 1) then ed_t (ed_sJ μ 7 (ed_up (μ 7) 15 0 1 ((μ 7 15 0 1) - 1))) (fun μ2 => (some μ2)) else ed_g (ed_in x1 4) ( ed_t ((μ 7 16 0 x1.toNatClampNeg).toNatClampNeg % 7) (fun j4q => ed_g (ed_in (x1 + 1) 4) ( ed_t ((μ 7 16 0 ((x1 + 1).toNatClampNeg)).toNatClampNeg % 7) (fun j6q => ed_g (ed_in x1 4) ( ed_t (ed_sJ μ 7 (ed_up (μ 7) 16 0 x1.toNatClampNeg (nI j6q))) (fun μ8 => ed_g (ed_in (x1 + 1) 4) ( ed_t (ed_sJ μ8 7 (ed_up (μ8 7) 16 0 (x1 + 1).toNatClampNeg (nI j4q))) (fun μ10 => (f_X2_dropOldest_2  n (x1 + 1) μ10))))))))))
def f_X2_dropOldest  (μ : ed_CM) : Option ed_CM :=
  f_X2_dropOldest_2 ed_N 0 μ
def f_X8_isPlace (x0 x1 : Int32) : Int32 :=
  (if x0 < 0 then 0 else (if x1 ≤ x0 then 0 else 1))
def f_X3_copyFrom (τ : ed_SM) (σ : ed_SM) : Option ed_SM :=
  ed_t (ed_sR σ 2 0 (va_cpy (τ 2 0) (σ 2 0) 0 0 48)) (fun σ1 => ed_t (ed_up σ1 1 0 1 (τ 1 0 1)) (fun σ2 => ed_t (ed_up σ2 1 0 2 (τ 1 0 2)) (fun σ3 => (some σ3))))
def f_X5_storyAt (x1 : Int32) (σ : ed_SM) : Option (Option Nat) :=
  (if (f_X8_isPlace x1 (if 20 < (σ 0 0 3) then 20 else (σ 0 0 3))) = 0 then some none else ed_g (ed_in x1 20) ( (some (some x1.toNatClampNeg))))
def f_X6_copyFrom (n0 n1 : Nat) (τ : ed_SM) (σ : ed_SM) : Option ed_SM :=
  ed_t (ed_up σ 7 n0 0 (τ 7 n1 0)) (fun σ1 => ed_t (ed_up σ1 7 n0 1 (τ 7 n1 1)) (fun σ2 => ed_t (ed_sR σ2 8 n0 (va_cpy (τ 8 n1) (σ2 8 n0) 0 0 3)) (fun σ3 => ed_t (ed_up σ3 7 n0 3 (τ 7 n1 3)) (fun σ4 => ed_t (ed_up σ4 7 n0 4 (τ 7 n1 4)) (fun σ5 => ed_t (ed_sR σ5 9 n0 (va_cpy (τ 9 n1) (σ5 9 n0) 0 0 12)) (fun σ6 => ed_t (ed_up σ6 7 n0 6 (τ 7 n1 6)) (fun σ7 => ed_t (ed_up σ7 7 n0 7 (τ 7 n1 7)) (fun σ8 => ed_t (ed_sR σ8 10 n0 (va_cpy (τ 10 n1) (σ8 10 n0) 0 0 6)) (fun σ9 => ed_t (ed_up σ9 7 n0 9 (τ 7 n1 9)) (fun σ10 => ed_t (ed_up σ10 7 n0 10 (τ 7 n1 10)) (fun σ11 => (some σ11))))))))))))
def f_X5_copyStories_10 (τ : ed_SM) : Nat → Int32 → ed_SM → Option ed_SM
  | 0, _, _ => none
  | n + 1, x2, σ =>
    (if (σ 0 0 3) ≤ x2 then some σ else ed_b (f_X5_storyAt x2 σ) (fun o3 => (match o3 with | none => ed_b (f_X5_storyAt x2 τ) (fun o4 => (match o4 with | none => f_X5_copyStories_10 τ n (x2 + 1) σ | some n4q => ed_g (n4q < 20) (f_X5_copyStories_10 τ n (x2 + 1) σ))) | some n3q => ed_g (n3q < 20) (ed_b (f_X5_storyAt x2 τ) (fun o5 => (match o5 with | none => f_X5_copyStories_10 τ n (x2 + 1) σ | some n5q => ed_g (n5q < 20) (ed_b (f_X6_copyFrom n3q n5q τ σ) (fun σ6 => (f_X5_copyStories_10 τ n (x2 + 1) σ6)))))))))
def f_X5_copyStories (τ : ed_SM) (σ : ed_SM) : Option ed_SM :=
  ed_t (ed_up σ 0 0 3 (τ 0 0 3)) (fun σ1 => (f_X5_copyStories_10 τ ed_N 0 σ1))
def f_X5_clientAt (x1 : Int32) (σ : ed_SM) : Option (Option Nat) :=
  (if (f_X8_isPlace x1 (if 8 < (σ 0 0 4) then 8 else (σ 0 0 4))) = 0 then some none else ed_g (ed_in x1 8) ( (some (some x1.toNatClampNeg))))
def f_X5_copyClients_10 (τ : ed_SM) : Nat → Int32 → ed_SM → Option ed_SM
  | 0, _, _ => none
  | n + 1, x2, σ =>
    (if (σ 0 0 4) ≤ x2 then some σ else ed_b (f_X5_clientAt x2 σ) (fun o3 => (match o3 with | none => ed_b (f_X5_clientAt x2 τ) (fun o4 => (match o4 with | none => f_X5_copyClients_10 τ n (x2 + 1) σ | some n4q => ed_g (n4q < 8) (f_X5_copyClients_10 τ n (x2 + 1) σ))) | some n3q => ed_g (n3q < 8) (ed_b (f_X5_clientAt x2 τ) (fun o5 => (match o5 with | none => f_X5_copyClients_10 τ n (x2 + 1) σ | some n5q => ed_g (n5q < 8) (ed_b (f_X0_copyFrom n3q n5q τ σ) (fun σ6 => (f_X5_copyClients_10 τ n (x2 + 1) σ6)))))))))
def f_X5_copyClients (τ : ed_SM) (σ : ed_SM) : Option ed_SM :=
  ed_t (ed_up σ 0 0 4 (τ 0 0 4)) (fun σ1 => (f_X5_copyClients_10 τ ed_N 0 σ1))
def f_X5_copyMade (x1 : Int32) (σ : ed_SM) : Option (Option Nat) :=
  (if (f_X8_isPlace x1 (if 160 < (σ 0 0 5) then 160 else (σ 0 0 5))) = 0 then some none else ed_g (ed_in x1 160) ( (some (some x1.toNatClampNeg))))
def f_X5_copyCopies_10 (τ : ed_SM) : Nat → Int32 → ed_SM → Option ed_SM
  | 0, _, _ => none
  | n + 1, x2, σ =>
    (if (σ 0 0 5) ≤ x2 then some σ else ed_b (f_X5_copyMade x2 σ) (fun o3 => (match o3 with | none => ed_b (f_X5_copyMade x2 τ) (fun o4 => (match o4 with | none => f_X5_copyCopies_10 τ n (x2 + 1) σ | some n4q => ed_g (n4q < 160) (f_X5_copyCopies_10 τ n (x2 + 1) σ))) | some n3q => ed_g (n3q < 160) (ed_b (f_X5_copyMade x2 τ) (fun o5 => (match o5 with | none => f_X5_copyCopies_10 τ n (x2 + 1) σ | some n5q => ed_g (n5q < 160) (ed_b (f_X1_copyFrom n3q n5q τ σ) (fun σ6 => (f_X5_copyCopies_10 τ n (x2 + 1) σ6)))))))))
def f_X5_copyCopies (τ : ed_SM) (σ : ed_SM) : Option ed_SM :=
  ed_t (ed_up σ 0 0 5 (τ 0 0 5)) (fun σ1 => (f_X5_copyCopies_10 τ ed_N 0 σ1))
def f_X5_personAt (x1 : Int32) (σ : ed_SM) : Option (Option Nat) :=
  (if (f_X8_isPlace x1 10) = 0 then some none else ed_g (ed_in x1 10) ( (some (some x1.toNatClampNeg))))
def f_X5_copyPersons_2 (τ : ed_SM) : Nat → Int32 → ed_SM → Option ed_SM
  | 0, _, _ => none
  | n + 1, x2, σ =>
    (if 10 ≤ x2 then some σ else ed_b (f_X5_personAt x2 σ) (fun o2 => (match o2 with | none => ed_b (f_X5_personAt x2 τ) (fun o3 => (match o3 with | none => f_X5_copyPersons_2 τ n (x2 + 1) σ | some n3q => ed_g (n3q < 10) (f_X5_copyPersons_2 τ n (x2 + 1) σ))) | some n2q => ed_g (n2q < 10) (ed_b (f_X5_personAt x2 τ) (fun o4 => (match o4 with | none => f_X5_copyPersons_2 τ n (x2 + 1) σ | some n4q => ed_g (n4q < 10) (ed_t (ed_up σ 13 n2q 0 (τ 13 n4q 0)) (fun σ5 => ed_t (ed_up σ5 13 n2q 1 (τ 13 n4q 1)) (fun σ6 => (f_X5_copyPersons_2 τ n (x2 + 1) σ6))))))))))
def f_X5_copyPersons (τ : ed_SM) (σ : ed_SM) : Option ed_SM :=
  f_X5_copyPersons_2 τ ed_N 0 σ
def f_X5_copyFrom (τ : ed_SM) (σ : ed_SM) : Option ed_SM :=
  ed_t (ed_up σ 0 0 0 (τ 0 0 0)) (fun σ1 => ed_t (ed_up σ1 0 0 1 (τ 0 0 1)) (fun σ2 => ed_t (ed_up σ2 0 0 2 (τ 0 0 2)) (fun σ3 => ed_b (f_X3_copyFrom τ σ3) (fun σ4 => ed_b (f_X5_copyStories τ σ4) (fun σ5 => ed_b (f_X5_copyClients τ σ5) (fun σ6 => ed_b (f_X5_copyCopies τ σ6) (fun σ7 => ed_b (f_X5_copyPersons τ σ7) (fun σ8 => (some σ8)))))))))
def f_X2_remember (j1 : Nat) (μ : ed_CM) : Option ed_CM :=
  (if (μ 7 15 0 1) < 4 then (if (f_X8_isPlace (μ 7 15 0 1) 4) = 0 then some μ else ed_g (ed_in (μ 7 15 0 1) 4) ( ed_t ((μ 7 16 0 ((μ 7 15 0 1).toNatClampNeg)).toNatClampNeg % 7) (fun j5q => ed_g (j1 ≠ j5q) ( ed_b (f_X5_copyFrom (μ j1) (μ j5q)) (fun σ7 => ed_t (ed_sJ μ j5q σ7) (fun μ8 => ed_t (ed_sJ μ8 7 (ed_up (μ8 7) 15 0 1 ((μ8 7 15 0 1) + 1))) (fun μ9 => (some μ9)))))))) else ed_b (f_X2_dropOldest μ) (fun μ10 => (if (f_X8_isPlace (μ10 7 15 0 1) 4) = 0 then some μ10 else ed_g (ed_in (μ10 7 15 0 1) 4) ( ed_t ((μ10 7 16 0 ((μ10 7 15 0 1).toNatClampNeg)).toNatClampNeg % 7) (fun j14q => ed_g (j1 ≠ j14q) ( ed_b (f_X5_copyFrom (μ10 j1) (μ10 j14q)) (fun σ16 => ed_t (ed_sJ μ10 j14q σ16) (fun μ17 => ed_t (ed_sJ μ17 7 (ed_up (μ17 7) 15 0 1 ((μ17 7 15 0 1) + 1))) (fun μ18 => (some μ18))))))))))
def f_X2_takeLatest (j1 : Nat) (μ : ed_CM) : Option ed_CM :=
  (if (f_X8_isPlace ((μ 7 15 0 1) - 1) 4) = 0 then some μ else ed_g (ed_in ((μ 7 15 0 1) - 1) 4) ( ed_t ((μ 7 16 0 (((μ 7 15 0 1) - 1).toNatClampNeg)).toNatClampNeg % 7) (fun j4q => ed_g (j4q ≠ j1) ( ed_b (f_X5_copyFrom (μ j4q) (μ j1)) (fun σ6 => ed_t (ed_sJ μ j1 σ6) (fun μ7 => ed_t (ed_sJ μ7 7 (ed_up (μ7 7) 15 0 1 ((μ7 7 15 0 1) - 1))) (fun μ8 => (some μ8))))))))
def f_X3_add (x1 x2 x3 x4 : Int32) (σ : ed_SM) : Option ed_SM :=
  ed_t (ed_up σ 1 0 1 (((σ 1 0 1) + 1) - ((σ 1 0 1) + 1) / 12 * 12)) (fun σ1 => ed_t (ed_up σ1 1 0 2 (if 12 < ((σ1 1 0 2) + 1) then 12 else ((σ1 1 0 2) + 1))) (fun σ2 => (if (f_X8_isPlace ((σ2 1 0 1) * 4) ((48 - 4) + 1)) = 0 then some σ2 else ed_g (ed_in ((σ2 1 0 1) * 4) 48) ( ed_t (ed_up σ2 2 0 ((σ2 1 0 1) * 4).toNatClampNeg x1) (fun σ6 => ed_g (ed_in (((σ2 1 0 1) * 4) + 1) 48) ( ed_t (ed_up σ6 2 0 (((σ2 1 0 1) * 4) + 1).toNatClampNeg x2) (fun σ8 => ed_g (ed_in (((σ2 1 0 1) * 4) + 2) 48) ( ed_t (ed_up σ8 2 0 (((σ2 1 0 1) * 4) + 2).toNatClampNeg x3) (fun σ10 => ed_g (ed_in (((σ2 1 0 1) * 4) + 3) 48) ( ed_t (ed_up σ10 2 0 (((σ2 1 0 1) * 4) + 3).toNatClampNeg x4) (fun σ12 => (some σ12))))))))))))
def f_X3_part (x1 x2 : Int32) (σ : ed_SM) : Option Int32 :=
  (if (f_X8_isPlace x1 (σ 1 0 2)) = 0 then some (-5) else ed_t ((((((σ 1 0 1) - x1) + 12) - (((σ 1 0 1) - x1) + 12) / 12 * 12) * 4) + x2) (fun y3 => (if (f_X8_isPlace y3 48) = 0 then some (-5) else ed_g (ed_in y3 48) ( (some (σ 2 0 y3.toNatClampNeg))))))
def f_X4_addShare (n0 : Nat) (x1 : Int32) (σ : ed_SM) : Option ed_SM :=
  (if (lg_cmp ((σ 13 n0 0).toInt64 + x1.toInt64) 2147483647) ≤ 0 then ed_t (ed_up σ 13 n0 0 ((σ 13 n0 0) + x1)) (fun σ2 => (some σ2)) else ed_t (ed_up σ 13 n0 1 ((σ 13 n0 1) + 1)) (fun σ3 => (some σ3)))
def f_X5_copyFor_2 (σ : ed_SM) : Nat → Int32 → Int32 → Int32 → Option (Option Nat)
  | 0, _, _, _ => none
  | n + 1, x1, x2, x3 =>
    (if (σ 0 0 5) ≤ x3 then some none else ed_b (f_X5_copyMade x3 σ) (fun o2 => (match o2 with | none => f_X5_copyFor_2 σ n x1 x2 (x3 + 1) | some n2q => ed_g (n2q < 160) ((if (σ 12 n2q 0) = x1 then (if (σ 12 n2q 1) = x2 then some (some n2q) else f_X5_copyFor_2 σ n x1 x2 (x3 + 1)) else f_X5_copyFor_2 σ n x1 x2 (x3 + 1))))))
def f_X5_copyFor (x1 x2 : Int32) (σ : ed_SM) : Option (Option Nat) :=
  f_X5_copyFor_2 σ ed_N x1 x2 0
def f_X5_startDay_2  : Nat → Int32 → ed_SM → Option ed_SM
  | 0, _, _ => none
  | n + 1, x1, σ =>
    (if (σ 0 0 4) ≤ x1 then some σ else ed_b (f_X5_clientAt x1 σ) (fun o2 => (match o2 with | none => f_X5_startDay_2  n (x1 + 1) σ | some n2q => ed_g (n2q < 8) (ed_t (ed_up σ 11 n2q 7 0) (fun σ3 => (f_X5_startDay_2  n (x1 + 1) σ3))))))
def f_X5_startDay  (σ : ed_SM) : Option ed_SM :=
  f_X5_startDay_2 ed_N 0 σ
def f_X5_planCopy (x1 x2 x3 : Int32) (σ : ed_SM) : Option ed_SM :=
  (if (σ 0 0 5) < 160 then ed_t (ed_up σ 0 0 5 ((σ 0 0 5) + 1)) (fun σ2 => ed_b (f_X5_copyMade ((σ2 0 0 5) - 1) σ2) (fun o3 => (match o3 with | none => some σ2 | some n3q => ed_g (n3q < 160) (ed_b (f_X1_begin n3q x1 x2 x3 σ2) (fun σ4 => (some σ4)))))) else some σ)
def f_X5_publish_30 (n2 : Nat) : Nat → Int32 → Int32 → ed_SM → Option ed_SM
  | 0, _, _, _ => none
  | n + 1, x1, x3, σ =>
    (if (σ 0 0 4) ≤ x3 then some σ else ed_b (f_X5_clientAt x3 σ) (fun o5 => (match o5 with | none => f_X5_publish_30 n2 n x1 (x3 + 1) σ | some n5q => ed_g (n5q < 8) ((if (f_X0_hasTopic n5q (σ 7 n2 0) σ) = 0 then f_X5_publish_30 n2 n x1 (x3 + 1) σ else ed_b (f_X5_planCopy x1 x3 ((σ 0 0 0) + (σ 11 n5q 1)) σ) (fun σ8 => (f_X5_publish_30 n2 n x1 (x3 + 1) σ8)))))))
def f_X5_publish (n2 : Nat) (x1 : Int32) (σ : ed_SM) : Option ed_SM :=
  ed_t (ed_up σ 7 n2 6 2) (fun σ1 => ed_t (ed_up σ1 7 n2 9 (σ1 0 0 0)) (fun σ2 => ed_b (f_X3_add 0 x1 (-5) (σ2 0 0 0) σ2) (fun σ3 => (f_X5_publish_30 n2 ed_N x1 0 σ3))))
def f_X6_authorAt (n0 : Nat) (x1 : Int32) (σ : ed_SM) : Option Int32 :=
  (if (f_X8_isPlace x1 (if 3 < (σ 7 n0 1) then 3 else (σ 7 n0 1))) = 0 then some (-5) else ed_g (ed_in x1 3) ( (some (σ 8 n0 x1.toNatClampNeg))))
def f_X5_bill_74 (n1 n2 : Nat) : Nat → Int32 → Int32 → Int32 → ed_SM → Option ed_SM
  | 0, _, _, _, _ => none
  | n + 1, x3, x4, x5, σ =>
    (if (σ 7 n1 1) ≤ x5 then some σ else ed_b (f_X6_authorAt n1 x5 σ) (fun r9 => ed_b (f_X5_personAt r9 σ) (fun o10 => (match o10 with | none => f_X5_bill_74 n1 n2 n x3 x4 (x5 + 1) σ | some n10q => ed_g (n10q < 10) ((if x5 = 0 then ed_b (f_X4_addShare n10q (x3 + x4) σ) (fun σ13 => (f_X5_bill_74 n1 n2 n x3 x4 (x5 + 1) σ13)) else ed_b (f_X4_addShare n10q x3 σ) (fun σ12 => (f_X5_bill_74 n1 n2 n x3 x4 (x5 + 1) σ12))))))))
def f_X5_bill (n1 n2 : Nat) (σ : ed_SM) : Option ed_SM :=
  (if (lg_cmp ((σ 11 n2 6).toInt64 + (σ 11 n2 4).toInt64) 2147483647) ≤ 0 then ed_t (ed_up σ 11 n2 6 ((σ 11 n2 6) + (σ 11 n2 4))) (fun σ2 => (if 0 < (σ2 7 n1 1) then ed_g (¬ (σ2 7 n1 1) = 0) ( ed_t ((σ2 11 n2 4) / (σ2 7 n1 1)) (fun y5 => ed_g (¬ (σ2 7 n1 1) = 0) ( ed_t ((σ2 11 n2 4) - (σ2 11 n2 4) / (σ2 7 n1 1) * (σ2 7 n1 1)) (fun y7 => (f_X5_bill_74 n1 n2 ed_N y5 y7 0 σ2))))) else some σ2)) else ed_t (ed_up σ 11 n2 9 ((σ 11 n2 9) + 1)) (fun σ14 => (some σ14)))
def f_X5_startUse (n1 n2 n3 : Nat) (σ : ed_SM) : Option ed_SM :=
  ed_t (ed_up σ 12 n1 2 1) (fun σ1 => ed_t (ed_up σ1 12 n1 4 (σ1 0 0 0)) (fun σ2 => ed_t (ed_up σ2 12 n1 5 (σ2 7 n2 7)) (fun σ3 => ed_t (ed_up σ3 11 n3 7 ((σ3 11 n3 7) + 1)) (fun σ4 => ed_t (ed_up σ4 11 n3 8 ((σ4 11 n3 8) + 1)) (fun σ5 => ed_b (f_X3_add 1 (σ5 12 n1 0) (σ5 12 n1 1) (σ5 0 0 0) σ5) (fun σ6 => ed_b (f_X5_bill n2 n3 σ6) (fun σ7 => (some σ7))))))))
def f_X5_useEndsAt (n1 : Nat) (σ : ed_SM) : Int32 :=
  (if (σ 12 n1 2) = 1 then ((σ 12 n1 4) + ((σ 0 0 1) * 24)) else (-5))
def f_X5_killNoticeAt (n1 : Nat) (σ : ed_SM) : Option Int32 :=
  ed_b (f_X5_storyAt (σ 12 n1 0) σ) (fun o1 => (match o1 with | none => ed_b (f_X5_clientAt (σ 12 n1 1) σ) (fun o2 => (match o2 with | none => some (-5) | some n2q => ed_g (n2q < 8) (some (-5)))) | some n1q => ed_g (n1q < 20) (ed_b (f_X5_clientAt (σ 12 n1 1) σ) (fun o3 => (match o3 with | none => some (-5) | some n3q => ed_g (n3q < 8) ((if (σ 7 n1q 6) = 3 then (if (σ 12 n1 2) = 1 then some ((σ 7 n1q 10) + ((σ 11 n3q 2) / 2)) else some (-5)) else some (-5))))))))
def f_X6_correctedAt (n0 : Nat) (x1 : Int32) (σ : ed_SM) : Option Int32 :=
  (if (f_X8_isPlace x1 (if 6 < (σ 7 n0 7) then 6 else (σ 7 n0 7))) = 0 then some (-5) else ed_g (ed_in x1 6) ( (some (σ 10 n0 x1.toNatClampNeg))))
def f_X5_correctionsDue_45 (n1 : Nat) (σ : ed_SM) : Nat → Nat → Nat → Int32 → Int32 → Option Int32
  | 0, _, _, _, _ => none
  | n + 1, m2, m3, x4, x5 =>
    (if (σ 7 m2 7) ≤ x5 then some x4 else ed_b (f_X6_correctedAt m2 x5 σ) (fun r6 => (if (σ 0 0 0) < (r6 + (σ 11 m3 2)) then f_X5_correctionsDue_45 n1 σ n m2 m3 x4 (x5 + 1) else f_X5_correctionsDue_45 n1 σ n m2 m3 (x4 + 1) (x5 + 1))))
def f_X5_correctionsDue (n1 : Nat) (σ : ed_SM) : Option Int32 :=
  ed_b (f_X5_storyAt (σ 12 n1 0) σ) (fun o1 => (match o1 with | none => ed_b (f_X5_clientAt (σ 12 n1 1) σ) (fun o2 => (match o2 with | none => some 0 | some n2q => ed_g (n2q < 8) (some 0))) | some n1q => ed_g (n1q < 20) (ed_b (f_X5_clientAt (σ 12 n1 1) σ) (fun o3 => (match o3 with | none => some 0 | some n3q => ed_g (n3q < 8) ((if (σ 12 n1 2) = 1 then f_X5_correctionsDue_45 n1 σ ed_N n1q n3q 0 (σ 12 n1 5) else some 0)))))))
def f_X5_reach_55 (n1 n2 : Nat) : Nat → Int32 → Int32 → ed_SM → Option ed_SM
  | 0, _, _, _ => none
  | n + 1, x3, x4, σ =>
    (if x3 ≤ x4 then some σ else ed_t (ed_up σ 12 n1 5 ((σ 12 n1 5) + 1)) (fun σ4 => ed_t (ed_up σ4 0 0 2 ((σ4 0 0 2) + 1)) (fun σ5 => ed_b (f_X3_add 2 (σ5 12 n1 0) (σ5 12 n1 1) (σ5 0 0 0) σ5) (fun σ6 => (f_X5_reach_55 n1 n2 n x3 (x4 + 1) σ6)))))
def f_X5_reach (n1 n2 : Nat) (σ : ed_SM) : Option ed_SM :=
  (if (σ 7 n2 6) = 3 then ed_b (f_X5_killNoticeAt n1 σ) (fun r7 => (if (σ 0 0 0) < r7 then ed_b (f_X5_correctionsDue n1 σ) (fun r9 => (f_X5_reach_55 n1 n2 ed_N r9 0 σ)) else ed_t (ed_up σ 12 n1 2 2) (fun σ10 => ed_b (f_X3_add 3 (σ10 12 n1 0) (σ10 12 n1 1) (σ10 0 0 0) σ10) (fun σ11 => (some σ11))))) else ed_b (f_X5_correctionsDue n1 σ) (fun r2 => (f_X5_reach_55 n1 n2 ed_N r2 0 σ)))
def f_X5_moveOn_120 (n1 : Nat) (m2 : Nat) (m3 : Nat) (σ : ed_SM) : Option ed_SM :=
    (if (σ 12 n1 2) = 1 then (if (σ 11 m3 5) = 0 then some σ else ed_b (f_X5_reach n1 m2 σ) (fun σ8 => (some σ8))) else some σ)
def f_X5_moveOn_75 (n1 : Nat) (m2 : Nat) (m3 : Nat) (σ : ed_SM) : Option ed_SM :=
    (if (σ 12 n1 2) = 1 then (if (σ 0 0 0) < (f_X5_useEndsAt n1 σ) then f_X5_moveOn_120 n1 m2 m3 σ else ed_t (ed_up σ 12 n1 2 3) (fun σ11 => ed_b (f_X3_add 4 (σ11 12 n1 0) (σ11 12 n1 1) (σ11 0 0 0) σ11) (fun σ12 => (f_X5_moveOn_120 n1 m2 m3 σ12)))) else f_X5_moveOn_120 n1 m2 m3 σ)
def f_X5_moveOn (n1 : Nat) (σ : ed_SM) : Option ed_SM :=
  ed_b (f_X5_storyAt (σ 12 n1 0) σ) (fun o1 => (match o1 with | none => ed_b (f_X5_clientAt (σ 12 n1 1) σ) (fun o2 => (match o2 with | none => some σ | some n2q => ed_g (n2q < 8) (some σ))) | some n1q => ed_g (n1q < 20) (ed_b (f_X5_clientAt (σ 12 n1 1) σ) (fun o3 => (match o3 with | none => some σ | some n3q => ed_g (n3q < 8) ((if (σ 12 n1 2) = 0 then (if (σ 7 n1q 6) = 3 then ed_t (ed_up σ 12 n1 2 4) (fun σ18 => (f_X5_moveOn_75 n1 n1q n3q σ18)) else (if (σ 0 0 0) < (σ 12 n1 3) then f_X5_moveOn_75 n1 n1q n3q σ else (if (f_X0_canGetCopy n3q σ) = 0 then f_X5_moveOn_75 n1 n1q n3q σ else ed_b (f_X5_startUse n1 n1q n3q σ) (fun σ17 => (f_X5_moveOn_75 n1 n1q n3q σ17))))) else f_X5_moveOn_75 n1 n1q n3q σ)))))))
def f_X5_passHour_77  : Nat → Int32 → ed_SM → Option ed_SM
  | 0, _, _ => none
  | n + 1, x1, σ =>
    (if (σ 0 0 5) ≤ x1 then some σ else ed_b (f_X5_copyMade x1 σ) (fun o5 => (match o5 with | none => f_X5_passHour_77  n (x1 + 1) σ | some n5q => ed_g (n5q < 160) ((if (f_X1_isOver n5q σ) = 0 then ed_b (f_X5_moveOn n5q σ) (fun σ8 => (f_X5_passHour_77  n (x1 + 1) σ8)) else f_X5_passHour_77  n (x1 + 1) σ)))))
def f_X5_passHour_26  : Nat → Int32 → ed_SM → Option ed_SM
  | 0, _, _ => none
  | n + 1, x1, σ =>
    (if (σ 0 0 3) ≤ x1 then f_X5_passHour_77 ed_N 0 σ else ed_b (f_X5_storyAt x1 σ) (fun o9 => (match o9 with | none => f_X5_passHour_26  n (x1 + 1) σ | some n9q => ed_g (n9q < 20) ((if (σ 7 n9q 6) = 1 then (if (σ 0 0 0) < (σ 7 n9q 3) then f_X5_passHour_26  n (x1 + 1) σ else ed_b (f_X5_publish n9q x1 σ) (fun σ12 => (f_X5_passHour_26  n (x1 + 1) σ12))) else f_X5_passHour_26  n (x1 + 1) σ)))))
def f_X5_passHour  (σ : ed_SM) : Option ed_SM :=
  ed_t (ed_up σ 0 0 0 ((σ 0 0 0) + 1)) (fun σ1 => (if ((σ1 0 0 0) - (σ1 0 0 0) / 24 * 24) = 0 then ed_b (f_X5_startDay σ1) (fun σ13 => (f_X5_passHour_26 ed_N 0 σ13)) else f_X5_passHour_26 ed_N 0 σ1))
def f_X5_correctionsMissing (n1 : Nat) (σ : ed_SM) : Option Int32 :=
  ed_b (f_X5_storyAt (σ 12 n1 0) σ) (fun o1 => (match o1 with | none => some 0 | some n1q => ed_g (n1q < 20) ((if (σ 12 n1 2) = 1 then some ((σ 7 n1q 7) - (σ 12 n1 5)) else some 0))))
def f_X5_nextCorrectionAt (n1 : Nat) (σ : ed_SM) : Option Int32 :=
  ed_b (f_X5_storyAt (σ 12 n1 0) σ) (fun o1 => (match o1 with | none => ed_b (f_X5_clientAt (σ 12 n1 1) σ) (fun o2 => (match o2 with | none => some (-5) | some n2q => ed_g (n2q < 8) (some (-5)))) | some n1q => ed_g (n1q < 20) (ed_b (f_X5_clientAt (σ 12 n1 1) σ) (fun o3 => (match o3 with | none => some (-5) | some n3q => ed_g (n3q < 8) (ed_b (f_X5_correctionsMissing n1 σ) (fun r4 => (if r4 = 0 then some (-5) else ed_b (f_X6_correctedAt n1q (σ 12 n1 5) σ) (fun r6 => (some (r6 + (σ 11 n3q 2))))))))))))
def f_X5_clientsFor_4 (σ : ed_SM) : Nat → Int32 → Int32 → Int32 → Option Int32
  | 0, _, _, _ => none
  | n + 1, x1, x2, x3 =>
    (if (σ 0 0 4) ≤ x3 then some x2 else ed_b (f_X5_clientAt x3 σ) (fun o2 => (match o2 with | none => f_X5_clientsFor_4 σ n x1 x2 (x3 + 1) | some n2q => ed_g (n2q < 8) ((if (f_X0_hasTopic n2q x1 σ) = 0 then f_X5_clientsFor_4 σ n x1 x2 (x3 + 1) else f_X5_clientsFor_4 σ n x1 (x2 + 1) (x3 + 1))))))
def f_X5_clientsFor (x1 : Int32) (σ : ed_SM) : Option Int32 :=
  f_X5_clientsFor_4 σ ed_N x1 0 0
def f_X5_copiesThatCame_4 (σ : ed_SM) : Nat → Int32 → Int32 → Option Int32
  | 0, _, _ => none
  | n + 1, x1, x2 =>
    (if (σ 0 0 4) ≤ x2 then some x1 else ed_b (f_X5_clientAt x2 σ) (fun o2 => (match o2 with | none => f_X5_copiesThatCame_4 σ n x1 (x2 + 1) | some n2q => ed_g (n2q < 8) (f_X5_copiesThatCame_4 σ n (x1 + (σ 11 n2q 8)) (x2 + 1)))))
def f_X5_copiesThatCame  (σ : ed_SM) : Option Int32 :=
  f_X5_copiesThatCame_4 σ ed_N 0 0
def f_X5_fits (x0 x1 : Int32) : Int32 :=
  (if x0 = (-1) then 1 else (if x0 = x1 then 1 else 0))
def f_X5_copiesOf_6 (σ : ed_SM) : Nat → Int32 → Int32 → Int32 → Int32 → Int32 → Option Int32
  | 0, _, _, _, _, _ => none
  | n + 1, x1, x2, x3, x4, x5 =>
    (if (σ 0 0 5) ≤ x5 then some x4 else ed_b (f_X5_copyMade x5 σ) (fun o2 => (match o2 with | none => f_X5_copiesOf_6 σ n x1 x2 x3 x4 (x5 + 1) | some n2q => ed_g (n2q < 160) ((if (f_X5_fits x1 (σ 12 n2q 0)) = 0 then f_X5_copiesOf_6 σ n x1 x2 x3 x4 (x5 + 1) else (if (f_X5_fits x2 (σ 12 n2q 1)) = 0 then f_X5_copiesOf_6 σ n x1 x2 x3 x4 (x5 + 1) else (if (f_X5_fits x3 (σ 12 n2q 2)) = 0 then f_X5_copiesOf_6 σ n x1 x2 x3 x4 (x5 + 1) else f_X5_copiesOf_6 σ n x1 x2 x3 (x4 + 1) (x5 + 1))))))))
def f_X5_copiesOf (x1 x2 x3 : Int32) (σ : ed_SM) : Option Int32 :=
  f_X5_copiesOf_6 σ ed_N x1 x2 x3 0 0
def f_X5_upToDateCopies_4 (σ : ed_SM) : Nat → Int32 → Int32 → Int32 → Option Int32
  | 0, _, _, _ => none
  | n + 1, x1, x2, x3 =>
    (if (σ 0 0 5) ≤ x3 then some x2 else ed_b (f_X5_copyMade x3 σ) (fun o2 => (match o2 with | none => f_X5_upToDateCopies_4 σ n x1 x2 (x3 + 1) | some n2q => ed_g (n2q < 160) ((if (σ 12 n2q 0) = x1 then (if (σ 12 n2q 2) = 1 then ed_b (f_X5_correctionsMissing n2q σ) (fun r5 => (if r5 = 0 then f_X5_upToDateCopies_4 σ n x1 (x2 + 1) (x3 + 1) else f_X5_upToDateCopies_4 σ n x1 x2 (x3 + 1))) else f_X5_upToDateCopies_4 σ n x1 x2 (x3 + 1)) else f_X5_upToDateCopies_4 σ n x1 x2 (x3 + 1))))))
def f_X5_upToDateCopies (x1 : Int32) (σ : ed_SM) : Option Int32 :=
  f_X5_upToDateCopies_4 σ ed_N x1 0 0
def f_X5_copiesWithCorrectionsDue_4 (σ : ed_SM) : Nat → Int32 → Int32 → Option Int32
  | 0, _, _ => none
  | n + 1, x1, x2 =>
    (if (σ 0 0 5) ≤ x2 then some x1 else ed_b (f_X5_copyMade x2 σ) (fun o2 => (match o2 with | none => f_X5_copiesWithCorrectionsDue_4 σ n x1 (x2 + 1) | some n2q => ed_g (n2q < 160) (ed_b (f_X5_correctionsDue n2q σ) (fun r3 => (if r3 ≤ 0 then f_X5_copiesWithCorrectionsDue_4 σ n x1 (x2 + 1) else f_X5_copiesWithCorrectionsDue_4 σ n (x1 + 1) (x2 + 1)))))))
def f_X5_copiesWithCorrectionsDue  (σ : ed_SM) : Option Int32 :=
  f_X5_copiesWithCorrectionsDue_4 σ ed_N 0 0
def f_X6_isBy_2 (n0 : Nat) (σ : ed_SM) : Nat → Int32 → Int32 → Option Int32
  | 0, _, _ => none
  | n + 1, x1, x2 =>
    (if (σ 7 n0 1) ≤ x2 then some 0 else ed_b (f_X6_authorAt n0 x2 σ) (fun r2 => (if r2 = x1 then some 1 else f_X6_isBy_2 n0 σ n x1 (x2 + 1))))
def f_X6_isBy (n0 : Nat) (x1 : Int32) (σ : ed_SM) : Option Int32 :=
  f_X6_isBy_2 n0 σ ed_N x1 0
def f_X5_storiesBy_4 (σ : ed_SM) : Nat → Int32 → Int32 → Int32 → Option Int32
  | 0, _, _, _ => none
  | n + 1, x1, x2, x3 =>
    (if (σ 0 0 3) ≤ x3 then some x2 else ed_b (f_X5_storyAt x3 σ) (fun o2 => (match o2 with | none => f_X5_storiesBy_4 σ n x1 x2 (x3 + 1) | some n2q => ed_g (n2q < 20) (ed_b (f_X6_isBy n2q x1 σ) (fun r3 => (if r3 = 0 then f_X5_storiesBy_4 σ n x1 x2 (x3 + 1) else f_X5_storiesBy_4 σ n x1 (x2 + 1) (x3 + 1)))))))
def f_X5_storiesBy (x1 : Int32) (σ : ed_SM) : Option Int32 :=
  f_X5_storiesBy_4 σ ed_N x1 0 0
def f_X5_copiesInUseBy_4 (σ : ed_SM) : Nat → Int32 → Int32 → Int32 → Option Int32
  | 0, _, _, _ => none
  | n + 1, x1, x2, x3 =>
    (if (σ 0 0 3) ≤ x3 then some x2 else ed_b (f_X5_storyAt x3 σ) (fun o2 => (match o2 with | none => f_X5_copiesInUseBy_4 σ n x1 x2 (x3 + 1) | some n2q => ed_g (n2q < 20) (ed_b (f_X6_isBy n2q x1 σ) (fun r3 => (if r3 = 0 then f_X5_copiesInUseBy_4 σ n x1 x2 (x3 + 1) else ed_b (f_X5_copiesOf x3 (-1) 1 σ) (fun r5 => (f_X5_copiesInUseBy_4 σ n x1 (x2 + r5) (x3 + 1)))))))))
def f_X5_copiesInUseBy (x1 : Int32) (σ : ed_SM) : Option Int32 :=
  f_X5_copiesInUseBy_4 σ ed_N x1 0 0
def f_X5_authors_4 (σ : ed_SM) : Nat → Int32 → Int32 → Option Int32
  | 0, _, _ => none
  | n + 1, x1, x2 =>
    (if 10 ≤ x2 then some x1 else ed_b (f_X5_storiesBy x2 σ) (fun r2 => (if r2 ≤ 0 then f_X5_authors_4 σ n x1 (x2 + 1) else f_X5_authors_4 σ n (x1 + 1) (x2 + 1))))
def f_X5_authors  (σ : ed_SM) : Option Int32 :=
  f_X5_authors_4 σ ed_N 0 0
def f_X6_begin (n0 : Nat) (τ : ed_SM) (σ : ed_SM) : Option ed_SM :=
  ed_t (ed_up σ 7 n0 0 (τ 17 0 3)) (fun σ1 => ed_t (ed_up σ1 7 n0 1 (τ 17 0 4)) (fun σ2 => ed_t (ed_sR σ2 8 n0 (va_cpy (τ 19 0) (σ2 8 n0) 0 0 3)) (fun σ3 => ed_t (ed_up σ3 7 n0 3 (τ 17 0 6)) (fun σ4 => ed_t (ed_up σ4 7 n0 4 (τ 17 0 7)) (fun σ5 => ed_t (ed_sR σ5 9 n0 (va_cpy (τ 20 0) (σ5 9 n0) 0 0 12)) (fun σ6 => ed_t (ed_up σ6 7 n0 6 0) (fun σ7 => ed_t (ed_up σ7 7 n0 7 0) (fun σ8 => ed_t (ed_up σ8 7 n0 9 (-5)) (fun σ9 => ed_t (ed_up σ9 7 n0 10 (-5)) (fun σ10 => (some σ10)))))))))))
def f_X6_addCorrection (n0 : Nat) (x1 : Int32) (σ : ed_SM) : Option ed_SM :=
  (if (f_X8_isPlace (σ 7 n0 7) 6) = 0 then some σ else ed_g (ed_in (σ 7 n0 7) 6) ( ed_t (ed_up σ 10 n0 (σ 7 n0 7).toNatClampNeg x1) (fun σ4 => ed_t (ed_up σ4 7 n0 7 ((σ4 7 n0 7) + 1)) (fun σ5 => (some σ5)))))
def f_X6_letterAt (n0 : Nat) (x1 : Int32) (σ : ed_SM) : Option Int32 :=
  (if (f_X8_isPlace x1 (if 12 < (σ 7 n0 4) then 12 else (σ 7 n0 4))) = 0 then some (-5) else ed_g (ed_in x1 12) ( (some (σ 9 n0 x1.toNatClampNeg))))
def f_X7_add (x1 : Int32) (σ : ed_SM) : Option ed_SM :=
  (if (f_X8_isPlace (σ 17 0 1) 40) = 0 then some σ else ed_g (ed_in (σ 17 0 1) 40) ( ed_t (ed_up σ 18 0 (σ 17 0 1).toNatClampNeg x1) (fun σ4 => ed_t (ed_up σ4 17 0 1 ((σ4 17 0 1) + 1)) (fun σ5 => (some σ5)))))
def f_X7_sign  (σ : ed_SM) : Option Int32 :=
  (if (f_X8_isPlace (σ 17 0 2) (if 40 < (σ 17 0 1) then 40 else (σ 17 0 1))) = 0 then some (-1) else ed_g (ed_in (σ 17 0 2) 40) ( (some (σ 18 0 ((σ 17 0 2).toNatClampNeg)))))
def f_X8_isBetween (x0 x1 x2 : Int32) : Int32 :=
  (if x0 < x1 then 0 else (if x2 < x0 then 0 else 1))
def f_X7_digit  (σ : ed_SM) : Option Int32 :=
  ed_b (f_X7_sign σ) (fun r1 => (if (f_X8_isBetween r1 48 57) = 0 then some (-1) else ed_b (f_X7_sign σ) (fun r4 => (some (r4 - 48)))))
def f_X7_readTopic  (σ : ed_SM) : Option (Int32 × ed_SM) :=
  ed_b (f_X7_digit σ) (fun r1 => ed_t (ed_up σ 17 0 3 r1) (fun σ2 => (if (f_X8_isBetween (σ2 17 0 3) 0 7) = 0 then some (0, σ2) else ed_t (ed_up σ2 17 0 2 ((σ2 17 0 2) + 1)) (fun σ5 => (some (1, σ5))))))
def f_X7_readSign (x1 : Int32) (σ : ed_SM) : Option (Int32 × ed_SM) :=
  ed_b (f_X7_sign σ) (fun r1 => (if r1 = x1 then ed_t (ed_up σ 17 0 2 ((σ 17 0 2) + 1)) (fun σ3 => (some (1, σ3))) else some (0, σ)))
def f_X7_isInByline_2 (σ : ed_SM) : Nat → Int32 → Int32 → Option Int32
  | 0, _, _ => none
  | n + 1, x1, x2 =>
    (if (σ 17 0 4) ≤ x2 then some 0 else (if 3 ≤ x2 then some 0 else ed_g (ed_in x2 3) ( (if (σ 19 0 x2.toNatClampNeg) = x1 then some 1 else f_X7_isInByline_2 σ n x1 (x2 + 1)))))
def f_X7_isInByline (x1 : Int32) (σ : ed_SM) : Option Int32 :=
  f_X7_isInByline_2 σ ed_N x1 0
def f_X7_readPerson  (σ : ed_SM) : Option (Int32 × ed_SM) :=
  ed_b (f_X7_digit σ) (fun r1 => (if r1 = (-1) then some (0, σ) else ed_b (f_X7_isInByline r1 σ) (fun r3 => (if r3 = 0 then (if (f_X8_isPlace (σ 17 0 4) 3) = 0 then some (0, σ) else ed_g (ed_in (σ 17 0 4) 3) ( ed_t (ed_up σ 19 0 (σ 17 0 4).toNatClampNeg r1) (fun σ8 => ed_t (ed_up σ8 17 0 4 ((σ8 17 0 4) + 1)) (fun σ9 => ed_t (ed_up σ9 17 0 2 ((σ9 17 0 2) + 1)) (fun σ10 => (some (1, σ10))))))) else some (0, σ)))))
def f_X7_readByline_7  : Nat → Int32 → ed_SM → Option (Int32 × ed_SM)
  | 0, _, _ => none
  | n + 1, x1, σ =>
    (if 3 ≤ x1 then some (1, σ) else (if x1 ≤ 0 then ed_b2 (f_X7_readPerson σ) (fun r4 σ4 => (if r4 = 0 then some (0, σ4) else f_X7_readByline_7  n (x1 + 1) σ4)) else ed_b2 (f_X7_readSign 44 σ) (fun r6 σ6 => (if r6 = 0 then some (1, σ6) else ed_b2 (f_X7_readPerson σ6) (fun r8 σ8 => (if r8 = 0 then some (0, σ8) else f_X7_readByline_7  n (x1 + 1) σ8))))))
def f_X7_readByline  (σ : ed_SM) : Option (Int32 × ed_SM) :=
  ed_t (ed_up σ 17 0 4 0) (fun σ1 => (f_X7_readByline_7 ed_N 0 σ1))
def f_X7_readEmbargo_30  : Nat → Int32 → ed_SM → Option (Int32 × ed_SM)
  | 0, _, _ => none
  | n + 1, x1, σ =>
    (if 3 ≤ x1 then some (1, σ) else (if (σ 17 0 6) = 0 then some (1, σ) else ed_b (f_X7_digit σ) (fun r7 => (if r7 = (-1) then some (1, σ) else ed_b (f_X7_digit σ) (fun r9 => ed_t (ed_up σ 17 0 6 (((σ 17 0 6) * 10) + r9)) (fun σ10 => ed_t (ed_up σ10 17 0 2 ((σ10 17 0 2) + 1)) (fun σ11 => (f_X7_readEmbargo_30  n (x1 + 1) σ11))))))))
def f_X7_readEmbargo  (σ : ed_SM) : Option (Int32 × ed_SM) :=
  ed_b (f_X7_digit σ) (fun r1 => ed_t (ed_up σ 17 0 6 r1) (fun σ2 => (if (σ2 17 0 6) = (-1) then some (0, σ2) else ed_t (ed_up σ2 17 0 2 ((σ2 17 0 2) + 1)) (fun σ4 => (f_X7_readEmbargo_30 ed_N 1 σ4)))))
def f_X7_readSlug_7  : Nat → Int32 → ed_SM → Option (Int32 × ed_SM)
  | 0, _, _ => none
  | n + 1, x1, σ =>
    (if 12 ≤ x1 then (if (σ 17 0 7) ≤ 0 then some (0, σ) else (if (σ 17 0 2) = (σ 17 0 1) then some (1, σ) else some (0, σ))) else ed_b (f_X7_sign σ) (fun r5 => (if (f_X8_isBetween r5 97 122) = 0 then (if (σ 17 0 7) ≤ 0 then some (0, σ) else (if (σ 17 0 2) = (σ 17 0 1) then some (1, σ) else some (0, σ))) else ed_b (f_X7_sign σ) (fun r10 => ed_g (ed_in x1 12) ( ed_t (ed_up σ 20 0 x1.toNatClampNeg r10) (fun σ12 => ed_t (ed_up σ12 17 0 7 ((σ12 17 0 7) + 1)) (fun σ13 => ed_t (ed_up σ13 17 0 2 ((σ13 17 0 2) + 1)) (fun σ14 => (f_X7_readSlug_7  n (x1 + 1) σ14)))))))))
def f_X7_readSlug  (σ : ed_SM) : Option (Int32 × ed_SM) :=
  ed_t (ed_up σ 17 0 7 0) (fun σ1 => (f_X7_readSlug_7 ed_N 0 σ1))
def f_X7_parse  (σ : ed_SM) : Option (Int32 × ed_SM) :=
  ed_t (ed_up σ 17 0 2 0) (fun σ1 => ed_b2 (f_X7_readTopic σ1) (fun r2 σ2 => (if r2 = 0 then some ((σ2 17 0 2), σ2) else ed_b2 (f_X7_readSign 32 σ2) (fun r4 σ4 => (if r4 = 0 then some ((σ4 17 0 2), σ4) else ed_b2 (f_X7_readByline σ4) (fun r6 σ6 => (if r6 = 0 then some ((σ6 17 0 2), σ6) else ed_b2 (f_X7_readSign 32 σ6) (fun r8 σ8 => (if r8 = 0 then some ((σ8 17 0 2), σ8) else ed_b2 (f_X7_readSign 64 σ8) (fun r10 σ10 => (if r10 = 0 then some ((σ10 17 0 2), σ10) else ed_b2 (f_X7_readEmbargo σ10) (fun r12 σ12 => (if r12 = 0 then some ((σ12 17 0 2), σ12) else ed_b2 (f_X7_readSign 32 σ12) (fun r14 σ14 => (if r14 = 0 then some ((σ14 17 0 2), σ14) else ed_b2 (f_X7_readSlug σ14) (fun r16 σ16 => (if r16 = 0 then some ((σ16 17 0 2), σ16) else some ((-1), σ16))))))))))))))))))
def f_X8_addClient (x1 x2 x3 x4 x5 : Int32) (μ : ed_CM) : Option (Int32 × ed_CM) :=
  (if (f_X8_isBetween x1 1 255) = 0 then some ((-2), μ) else (if (f_X8_isBetween x2 0 48) = 0 then some ((-2), μ) else (if (f_X8_isBetween x3 0 24) = 0 then some ((-2), μ) else (if (f_X8_isBetween x4 1 9) = 0 then some ((-2), μ) else (if (f_X8_isBetween x5 0 2000000000) = 0 then some ((-2), μ) else (if (μ 0 0 0 4) < 8 then ed_b (f_X2_remember 0 μ) (fun μ12 => ed_t (ed_sJ μ12 0 (ed_up (μ12 0) 0 0 4 ((μ12 0 0 0 4) + 1))) (fun μ13 => ed_b (f_X5_clientAt (μ12 0 0 0 4) (μ13 0)) (fun o14 => (match o14 with | none => some ((μ12 0 0 0 4), μ13) | some n14q => ed_g (n14q < 8) (ed_b (f_X0_begin n14q x1 x2 x3 x4 x5 (μ13 0)) (fun σ15 => ed_t (ed_sJ μ13 0 σ15) (fun μ16 => (some ((μ12 0 0 0 4), μ16))))))))) else some ((-3), μ)))))))
def f_X8_setTopics (x1 x2 : Int32) (μ : ed_CM) : Option (Int32 × ed_CM) :=
  ed_b (f_X5_clientAt x1 (μ 0)) (fun o1 => (match o1 with | none => some ((-1), μ) | some n1q => ed_g (n1q < 8) ((if (f_X8_isBetween x2 1 255) = 0 then some ((-2), μ) else (if (μ 0 11 n1q 0) = x2 then some ((-5), μ) else ed_b (f_X2_remember 0 μ) (fun μ5 => ed_t (ed_sJ μ5 0 (ed_up (μ5 0) 11 n1q 0 x2)) (fun μ6 => (some ((μ5 0 11 n1q 0), μ6)))))))))
def f_X8_setUp (x1 x2 : Int32) (μ : ed_CM) : Option (Int32 × ed_CM) :=
  ed_b (f_X5_clientAt x1 (μ 0)) (fun o1 => (match o1 with | none => some ((-1), μ) | some n1q => ed_g (n1q < 8) ((if (μ 0 11 n1q 5) = x2 then some ((-5), μ) else ed_b (f_X2_remember 0 μ) (fun μ3 => ed_g (ed_bo x2) ( ed_t (ed_sJ μ3 0 (ed_up (μ3 0) 11 n1q 5 x2)) (fun μ5 => ed_b (f_X5_copiesOf (-1) x1 0 (μ5 0)) (fun r6 => ed_b (f_X5_copiesOf (-1) x1 1 (μ5 0)) (fun r7 => (some ((r6 + r7), μ5)))))))))))
def f_X8_setUse (x1 : Int32) (μ : ed_CM) : Option (Int32 × ed_CM) :=
  (if (f_X8_isBetween x1 1 9) = 0 then some ((-2), μ) else (if (μ 0 0 0 1) = x1 then some ((-5), μ) else ed_b (f_X2_remember 0 μ) (fun μ4 => ed_t (ed_sJ μ4 0 (ed_up (μ4 0) 0 0 1 x1)) (fun μ5 => (some ((μ4 0 0 0 1), μ5))))))
def f_X8_pay (x1 x2 : Int32) (μ : ed_CM) : Option (Int32 × ed_CM) :=
  ed_b (f_X5_clientAt x1 (μ 0)) (fun o1 => (match o1 with | none => some ((-1), μ) | some n1q => ed_g (n1q < 8) ((if (f_X8_isBetween x2 1 2000000000) = 0 then some ((-2), μ) else (if x2 ≤ (μ 0 11 n1q 6) then ed_b (f_X2_remember 0 μ) (fun μ5 => ed_t (ed_sJ μ5 0 (ed_up (μ5 0) 11 n1q 6 ((μ5 0 11 n1q 6) - x2))) (fun μ6 => (some ((μ6 0 11 n1q 6), μ6)))) else some ((-4), μ))))))
def f_X8_readStory  (μ : ed_CM) : Option (Int32 × ed_CM) :=
  ed_b2 (f_X7_parse (μ 7)) (fun r1 σ1 => ed_t (ed_sJ μ 7 σ1) (fun μ2 => (if r1 = (-1) then (if (μ2 0 0 0 3) < 20 then ed_b (f_X2_remember 0 μ2) (fun μ5 => ed_t (ed_sJ μ5 0 (ed_up (μ5 0) 0 0 3 ((μ5 0 0 0 3) + 1))) (fun μ6 => ed_b (f_X5_storyAt (μ5 0 0 0 3) (μ6 0)) (fun o7 => (match o7 with | none => some ((μ5 0 0 0 3), μ6) | some n7q => ed_g (n7q < 20) (ed_b (f_X6_begin n7q (μ6 7) (μ6 0)) (fun σ8 => ed_t (ed_sJ μ6 0 σ8) (fun μ9 => (some ((μ5 0 0 0 3), μ9))))))))) else some ((-3), μ2)) else some (((-100) - r1), μ2))))
def f_X8_release (x1 : Int32) (μ : ed_CM) : Option (Int32 × ed_CM) :=
  ed_b (f_X5_storyAt x1 (μ 0)) (fun o1 => (match o1 with | none => some ((-1), μ) | some n1q => ed_g (n1q < 20) ((if (μ 0 7 n1q 6) = 0 then ed_b (f_X2_remember 0 μ) (fun μ3 => ed_t (ed_sJ μ3 0 (ed_up (μ3 0) 7 n1q 6 1)) (fun μ4 => ed_b (f_X5_clientsFor (μ4 0 7 n1q 0) (μ4 0)) (fun r5 => (some (r5, μ4))))) else some ((-4), μ)))))
def f_X8_hold (x1 : Int32) (μ : ed_CM) : Option (Int32 × ed_CM) :=
  ed_b (f_X5_storyAt x1 (μ 0)) (fun o1 => (match o1 with | none => some ((-1), μ) | some n1q => ed_g (n1q < 20) ((if (μ 0 7 n1q 6) = 1 then ed_b (f_X2_remember 0 μ) (fun μ3 => ed_t (ed_sJ μ3 0 (ed_up (μ3 0) 7 n1q 6 0)) (fun μ4 => (some ((if ((μ4 0 7 n1q 3) - (μ4 0 0 0 0)) < 0 then 0 else ((μ4 0 7 n1q 3) - (μ4 0 0 0 0))), μ4)))) else some ((-4), μ)))))
def f_X8_setEmbargo (x1 x2 : Int32) (μ : ed_CM) : Option (Int32 × ed_CM) :=
  ed_b (f_X5_storyAt x1 (μ 0)) (fun o1 => (match o1 with | none => some ((-1), μ) | some n1q => ed_g (n1q < 20) ((if (f_X8_isBetween x2 0 999) = 0 then some ((-2), μ) else (if (μ 0 7 n1q 6) = 0 then (if (μ 0 7 n1q 3) = x2 then some ((-5), μ) else ed_b (f_X2_remember 0 μ) (fun μ6 => ed_t (ed_sJ μ6 0 (ed_up (μ6 0) 7 n1q 3 x2)) (fun μ7 => (some ((μ6 0 7 n1q 3), μ7))))) else (if (μ 0 7 n1q 6) = 1 then (if (μ 0 7 n1q 3) = x2 then some ((-5), μ) else ed_b (f_X2_remember 0 μ) (fun μ10 => ed_t (ed_sJ μ10 0 (ed_up (μ10 0) 7 n1q 3 x2)) (fun μ11 => (some ((μ10 0 7 n1q 3), μ11))))) else some ((-4), μ)))))))
def f_X8_correct (x1 : Int32) (μ : ed_CM) : Option (Int32 × ed_CM) :=
  ed_b (f_X5_storyAt x1 (μ 0)) (fun o1 => (match o1 with | none => some ((-1), μ) | some n1q => ed_g (n1q < 20) ((if (μ 0 7 n1q 6) = 2 then (if (μ 0 7 n1q 7) < 6 then ed_b (f_X2_remember 0 μ) (fun μ4 => ed_b (f_X6_addCorrection n1q (μ4 0 0 0 0) (μ4 0)) (fun σ5 => ed_t (ed_sJ μ4 0 σ5) (fun μ6 => ed_b (f_X3_add 5 x1 (-5) (μ6 0 0 0 0) (μ6 0)) (fun σ7 => ed_t (ed_sJ μ6 0 σ7) (fun μ8 => (some ((μ8 0 7 n1q 7), μ8))))))) else some ((-3), μ)) else some ((-4), μ)))))
def f_X8_kill (x1 : Int32) (μ : ed_CM) : Option (Int32 × ed_CM) :=
  ed_b (f_X5_storyAt x1 (μ 0)) (fun o1 => (match o1 with | none => some ((-1), μ) | some n1q => ed_g (n1q < 20) ((if (μ 0 7 n1q 6) = 3 then some ((-5), μ) else ed_b (f_X2_remember 0 μ) (fun μ3 => ed_t (ed_sJ μ3 0 (ed_up (μ3 0) 7 n1q 6 3)) (fun μ4 => ed_t (ed_sJ μ4 0 (ed_up (μ4 0) 7 n1q 10 (μ4 0 0 0 0))) (fun μ5 => ed_b (f_X3_add 6 x1 (-5) (μ5 0 0 0 0) (μ5 0)) (fun σ6 => ed_t (ed_sJ μ5 0 σ6) (fun μ7 => ed_b (f_X5_copiesOf x1 (-1) 1 (μ7 0)) (fun r8 => (some (r8, μ7))))))))))))
def f_X8_pass_52  : Nat → Int32 → Int32 → Int32 → ed_CM → Option (Int32 × ed_CM)
  | 0, _, _, _, _ => none
  | n + 1, x1, x2, x3, μ =>
    (if x1 ≤ x3 then ed_b (f_X5_copiesThatCame (μ 0)) (fun r7 => (some ((r7 - x2), μ))) else ed_b (f_X5_passHour (μ 0)) (fun σ8 => ed_t (ed_sJ μ 0 σ8) (fun μ9 => (f_X8_pass_52  n x1 x2 (x3 + 1) μ9))))
def f_X8_pass (x1 : Int32) (μ : ed_CM) : Option (Int32 × ed_CM) :=
  (if (f_X8_isBetween x1 1 100) = 0 then some ((-2), μ) else (if ((μ 0 0 0 0) + x1) ≤ 9999 then ed_b (f_X2_remember 0 μ) (fun μ4 => ed_b (f_X5_copiesThatCame (μ4 0)) (fun r5 => (f_X8_pass_52 ed_N x1 r5 0 μ4))) else some ((-4), μ)))
def f_X8_type (x1 : Int32) (μ : ed_CM) : Option (Int32 × ed_CM) :=
  (if (μ 7 17 0 1) < 40 then ed_b (f_X7_add x1 (μ 7)) (fun σ2 => ed_t (ed_sJ μ 7 σ2) (fun μ3 => (some ((μ3 7 17 0 1), μ3)))) else some ((-3), μ))
def f_X8_clearText  (μ : ed_CM) : Option (Int32 × ed_CM) :=
  ed_t (ed_sJ μ 7 (ed_up (μ 7) 17 0 1 0)) (fun μ1 => (some ((μ 7 17 0 1), μ1)))
def f_X8_undo  (μ : ed_CM) : Option (Int32 × ed_CM) :=
  (if (μ 7 15 0 1) = 0 then some ((-5), μ) else ed_b (f_X2_takeLatest 0 μ) (fun μ2 => (some ((μ2 7 15 0 1), μ2))))
def f_X8_keep  (μ : ed_CM) : Option (Int32 × ed_CM) :=
  ed_b (f_X5_copyFrom (μ 0) (μ 2)) (fun σ1 => ed_t (ed_sJ μ 2 σ1) (fun μ2 => ed_t (ed_sJ μ2 7 (ed_up (μ2 7) 14 0 3 1)) (fun μ3 => (some ((μ3 0 0 0 0), μ3)))))
def f_X8_restore  (μ : ed_CM) : Option (Int32 × ed_CM) :=
  (if (μ 7 14 0 3) = 0 then some ((-5), μ) else ed_b (f_X2_remember 0 μ) (fun μ2 => ed_b (f_X5_copyFrom (μ2 2) (μ2 0)) (fun σ3 => ed_t (ed_sJ μ2 0 σ3) (fun μ4 => (some ((μ4 0 0 0 0), μ4))))))
def f_X8_story (x1 x2 : Int32) (μ : ed_CM) : Option Int32 :=
  ed_b (f_X5_storyAt x1 (μ 0)) (fun o1 => (match o1 with | none => some (-1) | some n1q => ed_g (n1q < 20) ((if x2 = 0 then some (μ 0 7 n1q 0) else if x2 = 1 then some (μ 0 7 n1q 1) else if x2 = 2 then some (μ 0 7 n1q 3) else if x2 = 3 then some (μ 0 7 n1q 6) else if x2 = 4 then some (μ 0 7 n1q 7) else if x2 = 5 then some (μ 0 7 n1q 9) else if x2 = 6 then some (μ 0 7 n1q 10) else if x2 = 7 then some (μ 0 7 n1q 4) else if x2 = 8 then ed_b (f_X5_copiesOf x1 (-1) (-1) (μ 0)) (fun r13 => (some r13)) else if x2 = 9 then ed_b (f_X5_copiesOf x1 (-1) 1 (μ 0)) (fun r14 => (some r14)) else if x2 = 10 then ed_b (f_X5_upToDateCopies x1 (μ 0)) (fun r15 => (some r15)) else some (-2)))))
def f_X8_byline (x1 x2 : Int32) (μ : ed_CM) : Option Int32 :=
  ed_b (f_X5_storyAt x1 (μ 0)) (fun o1 => (match o1 with | none => some (-1) | some n1q => ed_g (n1q < 20) ((if 0 ≤ x2 then ed_b (f_X6_authorAt n1q x2 (μ 0)) (fun r3 => (some r3)) else some (-2)))))
def f_X8_slugChar (x1 x2 : Int32) (μ : ed_CM) : Option Int32 :=
  ed_b (f_X5_storyAt x1 (μ 0)) (fun o1 => (match o1 with | none => some (-1) | some n1q => ed_g (n1q < 20) ((if 0 ≤ x2 then ed_b (f_X6_letterAt n1q x2 (μ 0)) (fun r3 => (some r3)) else some (-2)))))
def f_X8_correction (x1 x2 : Int32) (μ : ed_CM) : Option Int32 :=
  ed_b (f_X5_storyAt x1 (μ 0)) (fun o1 => (match o1 with | none => some (-1) | some n1q => ed_g (n1q < 20) ((if 0 ≤ x2 then ed_b (f_X6_correctedAt n1q x2 (μ 0)) (fun r3 => (some r3)) else some (-2)))))
def f_X8_client (x1 x2 : Int32) (μ : ed_CM) : Option Int32 :=
  ed_b (f_X5_clientAt x1 (μ 0)) (fun o1 => (match o1 with | none => some (-1) | some n1q => ed_g (n1q < 8) ((if x2 = 0 then some (μ 0 11 n1q 0) else if x2 = 1 then some (μ 0 11 n1q 1) else if x2 = 2 then some (μ 0 11 n1q 2) else if x2 = 3 then some (μ 0 11 n1q 3) else if x2 = 4 then some (μ 0 11 n1q 4) else if x2 = 5 then (if (μ 0 11 n1q 5) = 0 then some 0 else some 1) else if x2 = 6 then some (μ 0 11 n1q 6) else if x2 = 7 then some (μ 0 11 n1q 7) else if x2 = 8 then some (μ 0 11 n1q 8) else if x2 = 9 then ed_b (f_X5_copiesOf (-1) x1 1 (μ 0)) (fun r14 => (some r14)) else if x2 = 10 then some (μ 0 11 n1q 9) else some (-2)))))
def f_X8_person (x1 x2 : Int32) (μ : ed_CM) : Option Int32 :=
  ed_b (f_X5_personAt x1 (μ 0)) (fun o1 => (match o1 with | none => some (-1) | some n1q => ed_g (n1q < 10) ((if x2 = 0 then some (μ 0 13 n1q 0) else if x2 = 1 then some (μ 0 13 n1q 1) else if x2 = 2 then ed_b (f_X5_storiesBy x1 (μ 0)) (fun r6 => (some r6)) else if x2 = 3 then ed_b (f_X5_copiesInUseBy x1 (μ 0)) (fun r7 => (some r7)) else some (-2)))))
def f_X8_copy (x1 x2 x3 : Int32) (μ : ed_CM) : Option Int32 :=
  ed_b (f_X5_copyFor x1 x2 (μ 0)) (fun o1 => (match o1 with | none => some (-1) | some n1q => ed_g (n1q < 160) ((if x3 = 0 then some (μ 0 12 n1q 2) else if x3 = 1 then some (μ 0 12 n1q 3) else if x3 = 2 then some (μ 0 12 n1q 4) else if x3 = 3 then some (μ 0 12 n1q 5) else if x3 = 4 then ed_b (f_X5_correctionsMissing n1q (μ 0)) (fun r11 => (some r11)) else if x3 = 5 then ed_b (f_X5_correctionsDue n1q (μ 0)) (fun r12 => (some r12)) else if x3 = 6 then ed_b (f_X5_nextCorrectionAt n1q (μ 0)) (fun r13 => (some r13)) else if x3 = 7 then ed_b (f_X5_killNoticeAt n1q (μ 0)) (fun r14 => (some r14)) else if x3 = 8 then some (f_X5_useEndsAt n1q (μ 0)) else some (-2)))))
def f_X8_copyAt (x1 : Int32) (μ : ed_CM) : Option Int32 :=
  (if 0 ≤ x1 then ed_b (f_X5_copyMade x1 (μ 0)) (fun o2 => (match o2 with | none => some (-5) | some n2q => ed_g (n2q < 160) (some ((10 * (μ 0 12 n2q 0)) + (μ 0 12 n2q 1))))) else some (-2))
def f_X8_carriedIn_45  : Nat → Nat → Nat → Int32 → ed_CM → Option (Int32 × ed_CM)
  | 0, _, _, _, _ => none
  | n + 1, m3, m4, x5, μ =>
    (if 100 < x5 then some ((-5), μ) else (if x5 ≤ 0 then (if (μ 1 12 m3 2) = 1 then (if (μ 1 12 m3 5) = (μ 1 7 m4 7) then some (x5, μ) else f_X8_carriedIn_45  n m3 m4 (x5 + 1) μ) else f_X8_carriedIn_45  n m3 m4 (x5 + 1) μ) else ed_b (f_X5_passHour (μ 1)) (fun σ10 => ed_t (ed_sJ μ 1 σ10) (fun μ11 => (if (μ11 1 12 m3 2) = 1 then (if (μ11 1 12 m3 5) = (μ11 1 7 m4 7) then some (x5, μ11) else f_X8_carriedIn_45  n m3 m4 (x5 + 1) μ11) else f_X8_carriedIn_45  n m3 m4 (x5 + 1) μ11)))))
def f_X8_carriedIn (x1 x2 : Int32) (μ : ed_CM) : Option (Int32 × ed_CM) :=
  ed_b (f_X5_copyFrom (μ 0) (μ 1)) (fun σ1 => ed_t (ed_sJ μ 1 σ1) (fun μ2 => ed_b (f_X5_copyFor x1 x2 (μ2 1)) (fun o3 => (match o3 with | none => ed_b (f_X5_storyAt x1 (μ2 1)) (fun o4 => (match o4 with | none => some ((-1), μ2) | some n4q => ed_g (n4q < 20) (some ((-1), μ2)))) | some n3q => ed_g (n3q < 160) (ed_b (f_X5_storyAt x1 (μ2 1)) (fun o5 => (match o5 with | none => some ((-1), μ2) | some n5q => ed_g (n5q < 20) (f_X8_carriedIn_45 ed_N n3q n5q 0 μ2))))))))
def f_X8_wouldCome_48  : Nat → Nat → Int32 → Int32 → Int32 → ed_CM → Option (Int32 × ed_CM)
  | 0, _, _, _, _, _ => none
  | n + 1, m3, x2, x4, x5, μ =>
    (if x2 ≤ x5 then some (((μ 1 11 m3 8) - x4), μ) else ed_b (f_X5_passHour (μ 1)) (fun σ7 => ed_t (ed_sJ μ 1 σ7) (fun μ8 => (f_X8_wouldCome_48  n m3 x2 x4 (x5 + 1) μ8))))
def f_X8_wouldCome (x1 x2 : Int32) (μ : ed_CM) : Option (Int32 × ed_CM) :=
  ed_b (f_X5_copyFrom (μ 0) (μ 1)) (fun σ1 => ed_t (ed_sJ μ 1 σ1) (fun μ2 => ed_b (f_X5_clientAt x1 (μ2 1)) (fun o3 => (match o3 with | none => some ((-1), μ2) | some n3q => ed_g (n3q < 8) ((if (f_X8_isBetween x2 1 100) = 0 then some ((-2), μ2) else f_X8_wouldCome_48 ed_N n3q x2 (μ2 1 11 n3q 8) 0 μ2))))))
def f_X8_event (x1 x2 : Int32) (μ : ed_CM) : Option Int32 :=
  (if x1 < 0 then some (-2) else (if (f_X8_isBetween x2 0 3) = 0 then some (-2) else ed_b (f_X3_part x1 x2 (μ 0)) (fun r4 => (some r4))))
def f_X8_count (x1 : Int32) (μ : ed_CM) : Option Int32 :=
  (if x1 = 0 then some (μ 0 0 0 0) else if x1 = 1 then some (μ 0 0 0 4) else if x1 = 2 then some (μ 0 0 0 3) else if x1 = 3 then some (μ 0 0 0 5) else if x1 = 4 then ed_b (f_X5_copiesOf (-1) (-1) (x1 - 4) (μ 0)) (fun r16 => (some r16)) else if x1 = 5 then ed_b (f_X5_copiesOf (-1) (-1) (x1 - 4) (μ 0)) (fun r17 => (some r17)) else if x1 = 6 then ed_b (f_X5_copiesOf (-1) (-1) (x1 - 4) (μ 0)) (fun r18 => (some r18)) else if x1 = 7 then ed_b (f_X5_copiesOf (-1) (-1) (x1 - 4) (μ 0)) (fun r19 => (some r19)) else if x1 = 8 then ed_b (f_X5_copiesOf (-1) (-1) (x1 - 4) (μ 0)) (fun r20 => (some r20)) else if x1 = 9 then ed_b (f_X5_copiesWithCorrectionsDue (μ 0)) (fun r21 => (some r21)) else if x1 = 10 then some (μ 0 0 0 2) else if x1 = 11 then ed_b (f_X5_authors (μ 0)) (fun r22 => (some r22)) else if x1 = 12 then some (μ 0 0 0 1) else if x1 = 13 then some (μ 7 15 0 1) else if x1 = 14 then some (μ 7 17 0 1) else some (-2))
def f_X9_in (x0 x1 x2 : Int32) : Int32 :=
  (if x0 < x1 then 0 else (if x2 < x0 then 0 else 1))
def f_X9_record_51  : Nat → Int32 → em_MM → Option em_MM
  | 0, _, _ => none
  | n + 1, x1, ν =>
    (if 1683 ≤ x1 then ed_t (em_up ν 0 3 ((ν 0 3) + 1)) (fun ν3 => (some ν3)) else ed_g (ed_in x1 1683) ( ed_g (ed_in ((1683 * (ν 0 3)) + x1) 6732) ( ed_t (em_up ν 3 ((1683 * (ν 0 3)) + x1).toNatClampNeg (ν 1 x1.toNatClampNeg)) (fun ν6 => (f_X9_record_51  n (x1 + 1) ν6)))))
def f_X9_record_10  : Nat → Int32 → em_MM → Option em_MM
  | 0, _, _ => none
  | n + 1, x1, ν =>
    (if 5049 ≤ x1 then ed_t (em_up ν 0 3 ((ν 0 3) - 1)) (fun ν8 => (f_X9_record_51 ed_N 0 ν8)) else ed_g (ed_in (x1 + 1683) 6732) ( ed_g (ed_in x1 6732) ( ed_t (em_up ν 3 x1.toNatClampNeg (ν 3 (x1 + 1683).toNatClampNeg)) (fun ν11 => (f_X9_record_10  n (x1 + 1) ν11)))))
def f_X9_record  (ν : em_MM) : Option em_MM :=
  (if (ν 0 3) = 4 then f_X9_record_10 ed_N 0 ν else f_X9_record_51 ed_N 0 ν)
def f_X9_isClient (x1 : Int32) (ν : em_MM) : Option Int32 :=
  ed_g (ed_in 1 1683) ( ed_g (ed_bo (f_X9_in x1 0 ((ν 1 (1 : Int32).toNatClampNeg) - 1))) ( (some (f_X9_in x1 0 ((ν 1 (1 : Int32).toNatClampNeg) - 1)))))
def f_X9_isStory (x1 : Int32) (ν : em_MM) : Option Int32 :=
  ed_g (ed_in 2 1683) ( ed_g (ed_bo (f_X9_in x1 0 ((ν 1 (2 : Int32).toNatClampNeg) - 1))) ( (some (f_X9_in x1 0 ((ν 1 (2 : Int32).toNatClampNeg) - 1)))))
def f_X9_clientAt (x0 x1 : Int32) : Int32 :=
  ((7 + (10 * x0)) + x1)
def f_X9_storyAt (x0 x1 : Int32) : Int32 :=
  ((107 + (29 * x0)) + x1)
def f_X9_atCopy (x0 x1 : Int32) : Int32 :=
  ((687 + (6 * x0)) + x1)
def f_X9_ofClient (x1 x2 : Int32) (ν : em_MM) : Option Int32 :=
  ed_g (ed_in (f_X9_clientAt x1 x2) 1683) ( (some (ν 1 (f_X9_clientAt x1 x2).toNatClampNeg)))
def f_X9_ofStory (x1 x2 : Int32) (ν : em_MM) : Option Int32 :=
  ed_g (ed_in (f_X9_storyAt x1 x2) 1683) ( (some (ν 1 (f_X9_storyAt x1 x2).toNatClampNeg)))
def f_X9_ofCopy (x1 x2 : Int32) (ν : em_MM) : Option Int32 :=
  ed_g (ed_in (f_X9_atCopy x1 x2) 1683) ( (some (ν 1 (f_X9_atCopy x1 x2).toNatClampNeg)))
def f_X9_log_4  : Nat → Int32 → Int32 → Int32 → Int32 → em_MM → Option em_MM
  | 0, _, _, _, _, _ => none
  | n + 1, x1, x2, x3, x4, ν =>
    (if x4 ≤ 2 then ed_g (ed_in 1647 1683) ( ed_t (em_up ν 1 (1647 : Int32).toNatClampNeg x1) (fun ν3 => (if 0 ≤ x3 then ed_g (ed_in 1648 1683) ( ed_t (em_up ν3 1 (1648 : Int32).toNatClampNeg ((10 * x2) + x3)) (fun ν6 => ed_g (ed_in 0 1683) ( ed_g (ed_in 1649 1683) ( ed_t (em_up ν6 1 (1649 : Int32).toNatClampNeg (ν6 1 (0 : Int32).toNatClampNeg)) (fun ν9 => ed_g (ed_in 6 1683) ( ed_g (ed_in 6 1683) ( (if 12 ≤ (ν9 1 (6 : Int32).toNatClampNeg) then ed_g (ed_in 6 1683) ( ed_t (em_up ν9 1 (6 : Int32).toNatClampNeg ((ν9 1 (6 : Int32).toNatClampNeg) + 0)) (fun ν14 => (some ν14))) else ed_g (ed_in 6 1683) ( ed_t (em_up ν9 1 (6 : Int32).toNatClampNeg ((ν9 1 (6 : Int32).toNatClampNeg) + 1)) (fun ν16 => (some ν16))))))))))) else ed_g (ed_in 1648 1683) ( ed_t (em_up ν3 1 (1648 : Int32).toNatClampNeg ((10 * x2) + 9)) (fun ν18 => ed_g (ed_in 0 1683) ( ed_g (ed_in 1649 1683) ( ed_t (em_up ν18 1 (1649 : Int32).toNatClampNeg (ν18 1 (0 : Int32).toNatClampNeg)) (fun ν21 => ed_g (ed_in 6 1683) ( ed_g (ed_in 6 1683) ( (if 12 ≤ (ν21 1 (6 : Int32).toNatClampNeg) then ed_g (ed_in 6 1683) ( ed_t (em_up ν21 1 (6 : Int32).toNatClampNeg ((ν21 1 (6 : Int32).toNatClampNeg) + 0)) (fun ν26 => (some ν26))) else ed_g (ed_in 6 1683) ( ed_t (em_up ν21 1 (6 : Int32).toNatClampNeg ((ν21 1 (6 : Int32).toNatClampNeg) + 1)) (fun ν28 => (some ν28)))))))))))))) else ed_g (ed_in ((1647 + x4) - 3) 1683) ( ed_g (ed_in (1647 + x4) 1683) ( ed_t (em_up ν 1 (1647 + x4).toNatClampNeg (ν 1 ((1647 + x4) - 3).toNatClampNeg)) (fun ν31 => (f_X9_log_4  n x1 x2 x3 (x4 + (-1)) ν31)))))
def f_X9_log (x1 x2 x3 : Int32) (ν : em_MM) : Option em_MM :=
  f_X9_log_4 ed_N x1 x2 x3 35 ν
def f_X9_wants (x1 x2 : Int32) (ν : em_MM) : Option Int32 :=
  ed_b (f_X9_ofClient x1 0 ν) (fun r1 => ed_b (f_X9_ofStory x2 0 ν) (fun r2 => (if ((r1 >>> (r2 &&& 31)) &&& 1) = 1 then some 1 else some 0)))
def f_X9_publish_39  : Nat → Int32 → Int32 → em_MM → Option em_MM
  | 0, _, _, _ => none
  | n + 1, x1, x2, ν =>
    ed_g (ed_in 1 1683) ( (if (ν 1 (1 : Int32).toNatClampNeg) ≤ x2 then some ν else ed_b (f_X9_wants x2 x1 ν) (fun r11 => (if r11 = 0 then f_X9_publish_39  n x1 (x2 + 1) ν else ed_g (ed_in 3 1683) ( ed_t (ν 1 (3 : Int32).toNatClampNeg) (fun y14 => ed_g (ed_in (f_X9_atCopy y14 0) 1683) ( ed_t (em_up ν 1 (f_X9_atCopy y14 0).toNatClampNeg x1) (fun ν17 => ed_g (ed_in (f_X9_atCopy y14 1) 1683) ( ed_t (em_up ν17 1 (f_X9_atCopy y14 1).toNatClampNeg x2) (fun ν20 => ed_g (ed_in (f_X9_atCopy y14 2) 1683) ( ed_t (em_up ν20 1 (f_X9_atCopy y14 2).toNatClampNeg 0) (fun ν23 => ed_g (ed_in 0 1683) ( ed_b (f_X9_ofClient x2 1 ν23) (fun r26 => ed_g (ed_in (f_X9_atCopy y14 3) 1683) ( ed_t (em_up ν23 1 (f_X9_atCopy y14 3).toNatClampNeg ((ν23 1 (0 : Int32).toNatClampNeg) + r26)) (fun ν28 => ed_g (ed_in (f_X9_atCopy y14 4) 1683) ( ed_t (em_up ν28 1 (f_X9_atCopy y14 4).toNatClampNeg (-5)) (fun ν31 => ed_g (ed_in (f_X9_atCopy y14 5) 1683) ( ed_t (em_up ν31 1 (f_X9_atCopy y14 5).toNatClampNeg (-5)) (fun ν34 => ed_g (ed_in 3 1683) ( ed_g (ed_in 3 1683) ( ed_t (em_up ν34 1 (3 : Int32).toNatClampNeg ((ν34 1 (3 : Int32).toNatClampNeg) + 1)) (fun ν37 => (f_X9_publish_39  n x1 (x2 + 1) ν37))))))))))))))))))))))))
def f_X9_publish (x1 : Int32) (ν : em_MM) : Option em_MM :=
  ed_g (ed_in (f_X9_storyAt x1 6) 1683) ( ed_t (em_up ν 1 (f_X9_storyAt x1 6).toNatClampNeg 2) (fun ν3 => ed_g (ed_in 0 1683) ( ed_g (ed_in (f_X9_storyAt x1 8) 1683) ( ed_t (em_up ν3 1 (f_X9_storyAt x1 8).toNatClampNeg (ν3 1 (0 : Int32).toNatClampNeg)) (fun ν7 => ed_b (f_X9_log 0 x1 (-5) ν7) (fun ν8 => (f_X9_publish_39 ed_N x1 0 ν8)))))))
def f_X9_share (x1 x2 : Int32) (ν : em_MM) : Option em_MM :=
  ed_g (ed_in (87 + (2 * x1)) 1683) ( (if x2 ≤ (2147483647 - (ν 1 (87 + (2 * x1)).toNatClampNeg)) then ed_g (ed_in (87 + (2 * x1)) 1683) ( ed_g (ed_in (87 + (2 * x1)) 1683) ( ed_t (em_up ν 1 (87 + (2 * x1)).toNatClampNeg ((ν 1 (87 + (2 * x1)).toNatClampNeg) + x2)) (fun ν5 => (some ν5)))) else ed_g (ed_in ((87 + (2 * x1)) + 1) 1683) ( ed_g (ed_in ((87 + (2 * x1)) + 1) 1683) ( ed_t (em_up ν 1 ((87 + (2 * x1)) + 1).toNatClampNeg ((ν 1 ((87 + (2 * x1)) + 1).toNatClampNeg) + 1)) (fun ν8 => (some ν8))))))
def f_X9_bill_63  : Nat → Int32 → Int32 → Int32 → Int32 → em_MM → Option em_MM
  | 0, _, _, _, _, _ => none
  | n + 1, x1, x3, x4, x5, ν =>
    (if x4 ≤ x5 then some ν else ed_b (f_X9_ofStory x1 (2 + x5) ν) (fun r10 => ed_g (¬ x4 = 0) ( (if x5 = 0 then ed_g (¬ x4 = 0) ( ed_b (f_X9_share r10 ((x3 / x4) + (x3 - x3 / x4 * x4)) ν) (fun ν15 => (f_X9_bill_63  n x1 x3 x4 (x5 + 1) ν15))) else ed_b (f_X9_share r10 ((x3 / x4) + 0) ν) (fun ν13 => (f_X9_bill_63  n x1 x3 x4 (x5 + 1) ν13))))))
def f_X9_bill (x1 x2 : Int32) (ν : em_MM) : Option em_MM :=
  ed_b (f_X9_ofClient x2 4 ν) (fun r1 => ed_b (f_X9_ofClient x2 6 ν) (fun r2 => (if r1 ≤ (2147483647 - r2) then ed_g (ed_in (f_X9_clientAt x2 6) 1683) ( ed_g (ed_in (f_X9_clientAt x2 6) 1683) ( ed_t (em_up ν 1 (f_X9_clientAt x2 6).toNatClampNeg ((ν 1 (f_X9_clientAt x2 6).toNatClampNeg) + r1)) (fun ν7 => ed_b (f_X9_ofStory x1 1 ν7) (fun r8 => (f_X9_bill_63 ed_N x1 r1 r8 0 ν7))))) else ed_g (ed_in (f_X9_clientAt x2 9) 1683) ( ed_g (ed_in (f_X9_clientAt x2 9) 1683) ( ed_t (em_up ν 1 (f_X9_clientAt x2 9).toNatClampNeg ((ν 1 (f_X9_clientAt x2 9).toNatClampNeg) + 1)) (fun ν19 => (some ν19)))))))
def f_X9_useEnds (x1 : Int32) (ν : em_MM) : Option Int32 :=
  ed_b (f_X9_ofCopy x1 4 ν) (fun r1 => ed_g (ed_in 4 1683) ( (some (r1 + ((ν 1 (4 : Int32).toNatClampNeg) * 24)))))
def f_X9_killDue (x1 : Int32) (ν : em_MM) : Option Int32 :=
  ed_b (f_X9_ofCopy x1 0 ν) (fun r1 => ed_b (f_X9_ofStory r1 9 ν) (fun r2 => ed_b (f_X9_ofCopy x1 1 ν) (fun r3 => ed_b (f_X9_ofClient r3 2 ν) (fun r4 => (some (r2 + (r4 / 2)))))))
def f_X9_correctionDue (x1 x2 : Int32) (ν : em_MM) : Option Int32 :=
  ed_b (f_X9_ofCopy x1 0 ν) (fun r1 => ed_b (f_X9_ofStory r1 (10 + x2) ν) (fun r2 => ed_b (f_X9_ofCopy x1 1 ν) (fun r3 => ed_b (f_X9_ofClient r3 2 ν) (fun r4 => (some (r2 + r4))))))
def f_X9_goOn_304  : Nat → Int32 → Int32 → Int32 → Int32 → em_MM → Option (Int32 × em_MM)
  | 0, _, _, _, _, _ => none
  | n + 1, x1, x2, x3, x5, ν =>
    ed_b (f_X9_ofCopy x1 5 ν) (fun r16 => ed_b (f_X9_ofStory x2 7 ν) (fun r17 => (if r17 ≤ r16 then some (x5, ν) else ed_g (ed_in 0 1683) ( ed_b (f_X9_ofCopy x1 5 ν) (fun r20 => ed_b (f_X9_correctionDue x1 r20 ν) (fun r21 => (if (ν 1 (0 : Int32).toNatClampNeg) < r21 then some (x5, ν) else ed_g (ed_in (f_X9_atCopy x1 5) 1683) ( ed_g (ed_in (f_X9_atCopy x1 5) 1683) ( ed_t (em_up ν 1 (f_X9_atCopy x1 5).toNatClampNeg ((ν 1 (f_X9_atCopy x1 5).toNatClampNeg) + 1)) (fun ν26 => ed_g (ed_in 5 1683) ( ed_g (ed_in 5 1683) ( ed_t (em_up ν26 1 (5 : Int32).toNatClampNeg ((ν26 1 (5 : Int32).toNatClampNeg) + 1)) (fun ν29 => ed_b (f_X9_log 2 x2 x3 ν29) (fun ν30 => (f_X9_goOn_304  n x1 x2 x3 x5 ν30)))))))))))))))
def f_X9_goOn_242  (x1 : Int32) (x2 : Int32) (x3 : Int32) (x4 : Int32) (x5 : Int32) (ν : em_MM) : Option (Int32 × em_MM) :=
    ed_b (f_X9_ofCopy x1 2 ν) (fun r11 => (if r11 = 1 then ed_b (f_X9_ofClient x3 5 ν) (fun r13 => (if r13 = 0 then some (x5, ν) else (if x4 = 0 then f_X9_goOn_304 ed_N x1 x2 x3 x5 ν else ed_g (ed_in 0 1683) ( ed_b (f_X9_killDue x1 ν) (fun r32 => (if (ν 1 (0 : Int32).toNatClampNeg) < r32 then f_X9_goOn_304 ed_N x1 x2 x3 x5 ν else ed_g (ed_in (f_X9_atCopy x1 2) 1683) ( ed_t (em_up ν 1 (f_X9_atCopy x1 2).toNatClampNeg 2) (fun ν36 => ed_b (f_X9_log 3 x2 x3 ν36) (fun ν37 => (some (x5, ν37))))))))))) else some (x5, ν)))
def f_X9_goOn_200  (x1 : Int32) (x2 : Int32) (x3 : Int32) (x4 : Int32) (x5 : Int32) (ν : em_MM) : Option (Int32 × em_MM) :=
    ed_b (f_X9_ofCopy x1 2 ν) (fun r9 => (if r9 = 1 then ed_g (ed_in 0 1683) ( ed_b (f_X9_useEnds x1 ν) (fun r39 => (if (ν 1 (0 : Int32).toNatClampNeg) < r39 then f_X9_goOn_242 x1 x2 x3 x4 x5 ν else ed_g (ed_in (f_X9_atCopy x1 2) 1683) ( ed_t (em_up ν 1 (f_X9_atCopy x1 2).toNatClampNeg 3) (fun ν43 => ed_b (f_X9_log 4 x2 x3 ν43) (fun ν44 => (f_X9_goOn_242 x1 x2 x3 x4 x5 ν44))))))) else f_X9_goOn_242 x1 x2 x3 x4 x5 ν))
def f_X9_goOn_60  (x1 : Int32) (x2 : Int32) (x3 : Int32) (x4 : Int32) (x5 : Int32) (ν : em_MM) : Option (Int32 × em_MM) :=
    ed_b (f_X9_ofCopy x1 2 ν) (fun r7 => (if r7 = 0 then ed_g (ed_in 0 1683) ( ed_b (f_X9_ofCopy x1 3 ν) (fun r46 => (if (ν 1 (0 : Int32).toNatClampNeg) < r46 then f_X9_goOn_200 x1 x2 x3 x4 x5 ν else ed_b (f_X9_ofClient x3 5 ν) (fun r48 => (if r48 = 1 then ed_b (f_X9_ofClient x3 7 ν) (fun r50 => ed_b (f_X9_ofClient x3 3 ν) (fun r51 => (if r51 ≤ r50 then f_X9_goOn_200 x1 x2 x3 x4 x5 ν else ed_g (ed_in (f_X9_atCopy x1 2) 1683) ( ed_t (em_up ν 1 (f_X9_atCopy x1 2).toNatClampNeg 1) (fun ν55 => ed_g (ed_in 0 1683) ( ed_g (ed_in (f_X9_atCopy x1 4) 1683) ( ed_t (em_up ν55 1 (f_X9_atCopy x1 4).toNatClampNeg (ν55 1 (0 : Int32).toNatClampNeg)) (fun ν59 => ed_b (f_X9_ofStory x2 7 ν59) (fun r61 => ed_g (ed_in (f_X9_atCopy x1 5) 1683) ( ed_t (em_up ν59 1 (f_X9_atCopy x1 5).toNatClampNeg r61) (fun ν63 => ed_g (ed_in (f_X9_clientAt x3 7) 1683) ( ed_g (ed_in (f_X9_clientAt x3 7) 1683) ( ed_t (em_up ν63 1 (f_X9_clientAt x3 7).toNatClampNeg ((ν63 1 (f_X9_clientAt x3 7).toNatClampNeg) + 1)) (fun ν67 => ed_g (ed_in (f_X9_clientAt x3 8) 1683) ( ed_g (ed_in (f_X9_clientAt x3 8) 1683) ( ed_t (em_up ν67 1 (f_X9_clientAt x3 8).toNatClampNeg ((ν67 1 (f_X9_clientAt x3 8).toNatClampNeg) + 1)) (fun ν71 => ed_b (f_X9_bill x2 x3 ν71) (fun ν72 => ed_b (f_X9_log 1 x2 x3 ν72) (fun ν73 => (f_X9_goOn_200 x1 x2 x3 x4 1 ν73)))))))))))))))))))) else f_X9_goOn_200 x1 x2 x3 x4 x5 ν))))) else f_X9_goOn_200 x1 x2 x3 x4 x5 ν))
def f_X9_goOn_32  (x1 : Int32) (x2 : Int32) (x3 : Int32) (x4 : Int32) (ν : em_MM) : Option (Int32 × em_MM) :=
    ed_b (f_X9_ofCopy x1 2 ν) (fun r5 => (if r5 = 0 then (if x4 = 0 then f_X9_goOn_60 x1 x2 x3 x4 0 ν else ed_g (ed_in (f_X9_atCopy x1 2) 1683) ( ed_t (em_up ν 1 (f_X9_atCopy x1 2).toNatClampNeg 4) (fun ν77 => (f_X9_goOn_60 x1 x2 x3 x4 0 ν77)))) else f_X9_goOn_60 x1 x2 x3 x4 0 ν))
def f_X9_goOn (x1 : Int32) (ν : em_MM) : Option (Int32 × em_MM) :=
  ed_b (f_X9_ofCopy x1 0 ν) (fun r1 => ed_b (f_X9_ofCopy x1 1 ν) (fun r2 => ed_b (f_X9_ofStory r1 6 ν) (fun r3 => (if r3 = 3 then f_X9_goOn_32 x1 r1 r2 1 ν else f_X9_goOn_32 x1 r1 r2 0 ν))))
def f_X9_oneHour_105  : Nat → Int32 → Int32 → em_MM → Option (Int32 × em_MM)
  | 0, _, _, _ => none
  | n + 1, x1, x2, ν =>
    ed_g (ed_in 3 1683) ( (if (ν 1 (3 : Int32).toNatClampNeg) ≤ x2 then some (x1, ν) else ed_b2 (f_X9_goOn x2 ν) (fun r10 ν10 => (f_X9_oneHour_105  n (x1 + r10) (x2 + 1) ν10))))
def f_X9_oneHour_54  : Nat → Int32 → em_MM → Option (Int32 × em_MM)
  | 0, _, _ => none
  | n + 1, x1, ν =>
    ed_g (ed_in 2 1683) ( (if (ν 1 (2 : Int32).toNatClampNeg) ≤ x1 then f_X9_oneHour_105 ed_N 0 0 ν else ed_b (f_X9_ofStory x1 6 ν) (fun r11 => (if r11 = 1 then ed_b (f_X9_ofStory x1 5 ν) (fun r13 => ed_g (ed_in 0 1683) ( (if (ν 1 (0 : Int32).toNatClampNeg) < r13 then f_X9_oneHour_54  n (x1 + 1) ν else ed_b (f_X9_publish x1 ν) (fun ν16 => (f_X9_oneHour_54  n (x1 + 1) ν16))))) else f_X9_oneHour_54  n (x1 + 1) ν))))
def f_X9_oneHour_12  : Nat → Int32 → em_MM → Option (Int32 × em_MM)
  | 0, _, _ => none
  | n + 1, x1, ν =>
    ed_g (ed_in 1 1683) ( (if (ν 1 (1 : Int32).toNatClampNeg) ≤ x1 then f_X9_oneHour_54 ed_N 0 ν else ed_g (ed_in 0 1683) ( (if ((ν 1 (0 : Int32).toNatClampNeg) - (ν 1 (0 : Int32).toNatClampNeg) / 24 * 24) = 0 then ed_g (ed_in (f_X9_clientAt x1 7) 1683) ( ed_t (em_up ν 1 (f_X9_clientAt x1 7).toNatClampNeg 0) (fun ν21 => (f_X9_oneHour_12  n (x1 + 1) ν21))) else f_X9_oneHour_54 ed_N 0 ν))))
def f_X9_oneHour  (ν : em_MM) : Option (Int32 × em_MM) :=
  ed_g (ed_in 0 1683) ( ed_g (ed_in 0 1683) ( ed_t (em_up ν 1 (0 : Int32).toNatClampNeg ((ν 1 (0 : Int32).toNatClampNeg) + 1)) (fun ν3 => (f_X9_oneHour_12 ed_N 0 ν3))))
def f_X9_addClient (x1 x2 x3 x4 x5 : Int32) (ν : em_MM) : Option (Int32 × em_MM) :=
  (if (f_X9_in x1 1 255) = 0 then some ((-2), ν) else (if (f_X9_in x2 0 48) = 0 then some ((-2), ν) else (if (f_X9_in x3 0 24) = 0 then some ((-2), ν) else (if (f_X9_in x4 1 9) = 0 then some ((-2), ν) else (if (f_X9_in x5 0 2000000000) = 0 then some ((-2), ν) else ed_g (ed_in 1 1683) ( (if (ν 1 (1 : Int32).toNatClampNeg) = 8 then some ((-3), ν) else ed_b (f_X9_record ν) (fun ν13 => ed_g (ed_in 1 1683) ( ed_t (ν13 1 (1 : Int32).toNatClampNeg) (fun y15 => ed_g (ed_in (f_X9_clientAt y15 0) 1683) ( ed_t (em_up ν13 1 (f_X9_clientAt y15 0).toNatClampNeg x1) (fun ν18 => ed_g (ed_in (f_X9_clientAt y15 1) 1683) ( ed_t (em_up ν18 1 (f_X9_clientAt y15 1).toNatClampNeg x2) (fun ν21 => ed_g (ed_in (f_X9_clientAt y15 2) 1683) ( ed_t (em_up ν21 1 (f_X9_clientAt y15 2).toNatClampNeg x3) (fun ν24 => ed_g (ed_in (f_X9_clientAt y15 3) 1683) ( ed_t (em_up ν24 1 (f_X9_clientAt y15 3).toNatClampNeg x4) (fun ν27 => ed_g (ed_in (f_X9_clientAt y15 4) 1683) ( ed_t (em_up ν27 1 (f_X9_clientAt y15 4).toNatClampNeg x5) (fun ν30 => ed_g (ed_in (f_X9_clientAt y15 5) 1683) ( ed_t (em_up ν30 1 (f_X9_clientAt y15 5).toNatClampNeg 1) (fun ν33 => ed_g (ed_in 1 1683) ( ed_g (ed_in 1 1683) ( ed_t (em_up ν33 1 (1 : Int32).toNatClampNeg ((ν33 1 (1 : Int32).toNatClampNeg) + 1)) (fun ν36 => (some (y15, ν36)))))))))))))))))))))))))))
def f_X9_becomes (x1 x2 : Int32) (ν : em_MM) : Option (Int32 × em_MM) :=
  ed_g (ed_in x1 1683) ( (if (ν 1 x1.toNatClampNeg) = x2 then some ((-5), ν) else ed_b (f_X9_record ν) (fun ν3 => ed_g (ed_in x1 1683) ( ed_g (ed_in x1 1683) ( ed_t (em_up ν3 1 x1.toNatClampNeg x2) (fun ν6 => (some ((ν3 1 x1.toNatClampNeg), ν6))))))))
def f_X9_setTopics (x1 x2 : Int32) (ν : em_MM) : Option (Int32 × em_MM) :=
  ed_b (f_X9_isClient x1 ν) (fun r1 => (if r1 = 0 then some ((-1), ν) else (if (f_X9_in x2 1 255) = 0 then some ((-2), ν) else ed_b2 (f_X9_becomes (f_X9_clientAt x1 0) x2 ν) (fun r6 ν6 => (some (r6, ν6))))))
def f_X9_setUp_39  : Nat → Int32 → Int32 → Int32 → em_MM → Option (Int32 × em_MM)
  | 0, _, _, _, _ => none
  | n + 1, x1, x3, x4, ν =>
    ed_g (ed_in 3 1683) ( (if (ν 1 (3 : Int32).toNatClampNeg) ≤ x4 then some (x3, ν) else ed_b (f_X9_ofCopy x4 1 ν) (fun r9 => (if r9 = x1 then ed_b (f_X9_ofCopy x4 2 ν) (fun r11 => (if 1 < r11 then f_X9_setUp_39  n x1 (x3 + 0) (x4 + 1) ν else f_X9_setUp_39  n x1 (x3 + 1) (x4 + 1) ν)) else f_X9_setUp_39  n x1 (x3 + 0) (x4 + 1) ν))))
def f_X9_setUp (x1 x2 : Int32) (ν : em_MM) : Option (Int32 × em_MM) :=
  ed_b (f_X9_isClient x1 ν) (fun r1 => (if r1 = 0 then some ((-1), ν) else (if x2 = 0 then ed_b2 (f_X9_becomes (f_X9_clientAt x1 5) 0 ν) (fun r5 ν5 => (if 0 ≤ r5 then f_X9_setUp_39 ed_N x1 0 0 ν5 else some ((-5), ν5))) else ed_b2 (f_X9_becomes (f_X9_clientAt x1 5) 1 ν) (fun r13 ν13 => (if 0 ≤ r13 then f_X9_setUp_39 ed_N x1 0 0 ν13 else some ((-5), ν13))))))
def f_X9_setUse (x1 : Int32) (ν : em_MM) : Option (Int32 × em_MM) :=
  (if (f_X9_in x1 1 9) = 0 then some ((-2), ν) else ed_b2 (f_X9_becomes 4 x1 ν) (fun r3 ν3 => (some (r3, ν3))))
def f_X9_pay (x1 x2 : Int32) (ν : em_MM) : Option (Int32 × em_MM) :=
  ed_b (f_X9_isClient x1 ν) (fun r1 => (if r1 = 0 then some ((-1), ν) else (if (f_X9_in x2 1 2000000000) = 0 then some ((-2), ν) else ed_b (f_X9_ofClient x1 6 ν) (fun r5 => (if x2 ≤ r5 then ed_b (f_X9_record ν) (fun ν7 => ed_g (ed_in (f_X9_clientAt x1 6) 1683) ( ed_g (ed_in (f_X9_clientAt x1 6) 1683) ( ed_t (em_up ν7 1 (f_X9_clientAt x1 6).toNatClampNeg ((ν7 1 (f_X9_clientAt x1 6).toNatClampNeg) - x2)) (fun ν11 => ed_b (f_X9_ofClient x1 6 ν11) (fun r12 => (some (r12, ν11))))))) else some ((-4), ν))))))
def f_X9_type (x1 : Int32) (ν : em_MM) : Option (Int32 × em_MM) :=
  (if (ν 0 7) = 40 then some ((-3), ν) else ed_g (ed_in (ν 0 7) 40) ( ed_t (em_up ν 5 (ν 0 7).toNatClampNeg x1) (fun ν3 => ed_t (em_up ν3 0 7 ((ν3 0 7) + 1)) (fun ν4 => (some ((ν4 0 7), ν4))))))
def f_X9_clearText  (ν : em_MM) : Option (Int32 × em_MM) :=
  ed_t (em_up ν 0 7 0) (fun ν1 => (some ((ν 0 7), ν1)))
def f_X9_sign (x1 : Int32) (ν : em_MM) : Option (Int32 × em_MM) :=
  (if (ν 0 7) ≤ (ν 0 8) then ed_t (em_up ν 0 8 ((ν 0 8) + 0)) (fun ν2 => (some (0, ν2))) else ed_g (ed_in (ν 0 8) 40) ( (if (ν 5 (ν 0 8).toNatClampNeg) = x1 then ed_t (em_up ν 0 8 ((ν 0 8) + 1)) (fun ν6 => (some (1, ν6))) else ed_t (em_up ν 0 8 ((ν 0 8) + 0)) (fun ν5 => (some (0, ν5))))))
def f_X9_digitTo (x1 : Int32) (ν : em_MM) : Option (Int32 × em_MM) :=
  (if (ν 0 7) ≤ (ν 0 8) then ed_t (em_up ν 0 10 (-1)) (fun ν2 => (if (f_X9_in (ν2 0 10) 0 x1) = 0 then ed_t (em_up ν2 0 8 ((ν2 0 8) + 0)) (fun ν5 => ed_g (ed_bo (f_X9_in (ν2 0 10) 0 x1)) ( (some ((f_X9_in (ν2 0 10) 0 x1), ν5)))) else ed_t (em_up ν2 0 8 ((ν2 0 8) + 1)) (fun ν7 => ed_g (ed_bo (f_X9_in (ν2 0 10) 0 x1)) ( (some ((f_X9_in (ν2 0 10) 0 x1), ν7)))))) else ed_g (ed_in (ν 0 8) 40) ( ed_t (em_up ν 0 10 ((ν 5 (ν 0 8).toNatClampNeg) - 48)) (fun ν10 => ed_t (f_X9_in (ν10 0 10) 0 x1) (fun y12 => (if y12 = 0 then ed_t (em_up ν10 0 8 ((ν10 0 8) + 0)) (fun ν14 => ed_g (ed_bo y12) ( (some (y12, ν14)))) else ed_t (em_up ν10 0 8 ((ν10 0 8) + 1)) (fun ν16 => ed_g (ed_bo y12) ( (some (y12, ν16)))))))))
def f_X9_readPersons_28 (k9 : Int32 → em_MM → Option (Int32 × em_MM)) : Nat → Int32 → Int32 → Int32 → em_MM → Option (Int32 × em_MM)
  | 0, _, _, _, _ => none
  | n + 1, x2, x3, x4, ν =>
    ed_g (ed_in 1 29) ( (if (ν 6 (1 : Int32).toNatClampNeg) ≤ x4 then (if x3 = 0 then ed_t (em_up ν 0 8 x2) (fun ν18 => (some (0, ν18))) else ed_g (ed_in 1 29) ( ed_g (ed_in (2 + (ν 6 (1 : Int32).toNatClampNeg)) 29) ( ed_t (em_up ν 6 (2 + (ν 6 (1 : Int32).toNatClampNeg)).toNatClampNeg (ν 0 10)) (fun ν10 => ed_g (ed_in 1 29) ( ed_g (ed_in 1 29) ( ed_t (em_up ν10 6 (1 : Int32).toNatClampNeg ((ν10 6 (1 : Int32).toNatClampNeg) + 1)) (fun ν13 => ed_g (ed_in 1 29) ( (if 3 ≤ (ν13 6 (1 : Int32).toNatClampNeg) then k9 0 ν13 else ed_b2 (f_X9_sign 44 ν13) (fun r16 ν16 => (if r16 = 0 then k9 0 ν16 else k9 1 ν16))))))))))) else (if x3 = 0 then f_X9_readPersons_28 k9 n x2 0 (x4 + 1) ν else ed_g (ed_in (2 + x4) 29) ( (if (ν 6 (2 + x4).toNatClampNeg) = (ν 0 10) then f_X9_readPersons_28 k9 n x2 0 (x4 + 1) ν else f_X9_readPersons_28 k9 n x2 1 (x4 + 1) ν)))))
def f_X9_readPersons_9  : Nat → Int32 → em_MM → Option (Int32 × em_MM)
  | 0, _, _ => none
  | n + 1, x1, ν =>
    (if x1 = 0 then some (1, ν) else ed_b2 (f_X9_digitTo 9 ν) (fun r4 ν4 => (f_X9_readPersons_28 (fun a0 a1 => f_X9_readPersons_9  n a0 a1) ed_N (ν 0 8) r4 0 ν4)))
def f_X9_readPersons  (ν : em_MM) : Option (Int32 × em_MM) :=
  ed_g (ed_in 1 29) ( ed_t (em_up ν 6 (1 : Int32).toNatClampNeg 0) (fun ν2 => (f_X9_readPersons_9 ed_N 1 ν2)))
def f_X9_readHour_7  : Nat → Int32 → Int32 → em_MM → Option (Int32 × em_MM)
  | 0, _, _, _ => none
  | n + 1, x1, x2, ν =>
    (if (x2 + 3) ≤ (ν 0 8) then ed_g (ed_in 5 29) ( ed_t (em_up ν 6 (5 : Int32).toNatClampNeg x1) (fun ν3 => (if (ν3 0 8) ≤ x2 then some (0, ν3) else some (1, ν3)))) else (if (ν 0 8) = x2 then ed_b2 (f_X9_digitTo 9 ν) (fun r6 ν6 => (if r6 = 0 then ed_g (ed_in 5 29) ( ed_t (em_up ν6 6 (5 : Int32).toNatClampNeg x1) (fun ν9 => (if (ν9 0 8) ≤ x2 then some (0, ν9) else some (1, ν9)))) else f_X9_readHour_7  n ((10 * x1) + (ν6 0 10)) x2 ν6)) else ed_g (ed_in x2 40) ( (if (ν 5 x2.toNatClampNeg) = 48 then ed_g (ed_in 5 29) ( ed_t (em_up ν 6 (5 : Int32).toNatClampNeg x1) (fun ν14 => (if (ν14 0 8) ≤ x2 then some (0, ν14) else some (1, ν14)))) else ed_b2 (f_X9_digitTo 9 ν) (fun r16 ν16 => (if r16 = 0 then ed_g (ed_in 5 29) ( ed_t (em_up ν16 6 (5 : Int32).toNatClampNeg x1) (fun ν19 => (if (ν19 0 8) ≤ x2 then some (0, ν19) else some (1, ν19)))) else f_X9_readHour_7  n ((10 * x1) + (ν16 0 10)) x2 ν16))))))
def f_X9_readHour  (ν : em_MM) : Option (Int32 × em_MM) :=
  f_X9_readHour_7 ed_N 0 (ν 0 8) ν
def f_X9_readSlug_2  : Nat → Int32 → em_MM → Option (Int32 × em_MM)
  | 0, _, _ => none
  | n + 1, x1, ν =>
    (if 12 ≤ x1 then ed_g (ed_in 16 29) ( ed_t (em_up ν 6 (16 : Int32).toNatClampNeg x1) (fun ν3 => (if x1 ≤ 0 then some (0, ν3) else some (1, ν3)))) else (if (ν 0 7) ≤ (ν 0 8) then ed_g (ed_in 16 29) ( ed_t (em_up ν 6 (16 : Int32).toNatClampNeg x1) (fun ν7 => (if x1 ≤ 0 then some (0, ν7) else some (1, ν7)))) else ed_g (ed_in (ν 0 8) 40) ( (if (f_X9_in (ν 5 (ν 0 8).toNatClampNeg) 97 122) = 0 then ed_g (ed_in 16 29) ( ed_t (em_up ν 6 (16 : Int32).toNatClampNeg x1) (fun ν13 => (if x1 ≤ 0 then some (0, ν13) else some (1, ν13)))) else ed_g (ed_in (ν 0 8) 40) ( ed_g (ed_in (17 + x1) 29) ( ed_t (em_up ν 6 (17 + x1).toNatClampNeg (ν 5 (ν 0 8).toNatClampNeg)) (fun ν17 => ed_t (em_up ν17 0 8 ((ν17 0 8) + 1)) (fun ν18 => (f_X9_readSlug_2  n (x1 + 1) ν18)))))))))
def f_X9_readSlug  (ν : em_MM) : Option (Int32 × em_MM) :=
  f_X9_readSlug_2 ed_N 0 ν
def f_X9_readText_7  : Nat → Int32 → em_MM → Option (Int32 × em_MM)
  | 0, _, _ => none
  | n + 1, x1, ν =>
    (if 29 ≤ x1 then ed_b2 (f_X9_digitTo 7 ν) (fun r3 ν3 => ed_g (ed_in 0 29) ( ed_t (em_up ν3 6 (0 : Int32).toNatClampNeg (ν3 0 10)) (fun ν5 => (if r3 = 0 then some (0, ν5) else ed_b2 (f_X9_sign 32 ν5) (fun r7 ν7 => (if r7 = 0 then some (0, ν7) else ed_b2 (f_X9_readPersons ν7) (fun r9 ν9 => (if r9 = 0 then some (0, ν9) else ed_b2 (f_X9_sign 32 ν9) (fun r11 ν11 => (if r11 = 0 then some (0, ν11) else ed_b2 (f_X9_sign 64 ν11) (fun r13 ν13 => (if r13 = 0 then some (0, ν13) else ed_b2 (f_X9_readHour ν13) (fun r15 ν15 => (if r15 = 0 then some (0, ν15) else ed_b2 (f_X9_sign 32 ν15) (fun r17 ν17 => (if r17 = 0 then some (0, ν17) else ed_b2 (f_X9_readSlug ν17) (fun r19 ν19 => (if r19 = 0 then some (0, ν19) else (if (ν19 0 8) = (ν19 0 7) then some (1, ν19) else some (0, ν19)))))))))))))))))))) else ed_g (ed_in x1 29) ( ed_t (em_up ν 6 x1.toNatClampNeg 0) (fun ν23 => (f_X9_readText_7  n (x1 + 1) ν23))))
def f_X9_readText  (ν : em_MM) : Option (Int32 × em_MM) :=
  ed_t (em_up ν 0 8 0) (fun ν1 => (f_X9_readText_7 ed_N 0 ν1))
def f_X9_readStory_42  : Nat → Int32 → Int32 → em_MM → Option (Int32 × em_MM)
  | 0, _, _, _ => none
  | n + 1, x1, x2, ν =>
    (if 29 ≤ x2 then ed_g (ed_in (f_X9_storyAt x1 6) 1683) ( ed_t (em_up ν 1 (f_X9_storyAt x1 6).toNatClampNeg 0) (fun ν11 => ed_g (ed_in (f_X9_storyAt x1 8) 1683) ( ed_t (em_up ν11 1 (f_X9_storyAt x1 8).toNatClampNeg (-5)) (fun ν14 => ed_g (ed_in (f_X9_storyAt x1 9) 1683) ( ed_t (em_up ν14 1 (f_X9_storyAt x1 9).toNatClampNeg (-5)) (fun ν17 => ed_g (ed_in 2 1683) ( ed_g (ed_in 2 1683) ( ed_t (em_up ν17 1 (2 : Int32).toNatClampNeg ((ν17 1 (2 : Int32).toNatClampNeg) + 1)) (fun ν20 => (some (x1, ν20))))))))))) else ed_g (ed_in x2 29) ( ed_g (ed_in (f_X9_storyAt x1 x2) 1683) ( ed_t (em_up ν 1 (f_X9_storyAt x1 x2).toNatClampNeg (ν 6 x2.toNatClampNeg)) (fun ν24 => (f_X9_readStory_42  n x1 (x2 + 1) ν24)))))
def f_X9_readStory  (ν : em_MM) : Option (Int32 × em_MM) :=
  ed_b2 (f_X9_readText ν) (fun r1 ν1 => (if r1 = 0 then some (((-100) - (ν1 0 8)), ν1) else ed_g (ed_in 2 1683) ( (if (ν1 1 (2 : Int32).toNatClampNeg) = 20 then some ((-3), ν1) else ed_b (f_X9_record ν1) (fun ν5 => ed_g (ed_in 2 1683) ( ed_t (ν5 1 (2 : Int32).toNatClampNeg) (fun y7 => (f_X9_readStory_42 ed_N y7 0 ν5))))))))
def f_X9_release_43  : Nat → Int32 → Int32 → Int32 → em_MM → Option (Int32 × em_MM)
  | 0, _, _, _, _ => none
  | n + 1, x1, x2, x3, ν =>
    ed_g (ed_in 1 1683) ( (if (ν 1 (1 : Int32).toNatClampNeg) ≤ x3 then some (x2, ν) else ed_b (f_X9_wants x3 x1 ν) (fun r11 => (if r11 = 0 then f_X9_release_43  n x1 (x2 + 0) (x3 + 1) ν else f_X9_release_43  n x1 (x2 + 1) (x3 + 1) ν))))
def f_X9_release (x1 : Int32) (ν : em_MM) : Option (Int32 × em_MM) :=
  ed_b (f_X9_isStory x1 ν) (fun r1 => (if r1 = 0 then some ((-1), ν) else ed_b (f_X9_ofStory x1 6 ν) (fun r3 => (if r3 = 0 then ed_b (f_X9_record ν) (fun ν5 => ed_g (ed_in (f_X9_storyAt x1 6) 1683) ( ed_t (em_up ν5 1 (f_X9_storyAt x1 6).toNatClampNeg 1) (fun ν8 => (f_X9_release_43 ed_N x1 0 0 ν8)))) else some ((-4), ν)))))
def f_X9_hold (x1 : Int32) (ν : em_MM) : Option (Int32 × em_MM) :=
  ed_b (f_X9_isStory x1 ν) (fun r1 => (if r1 = 0 then some ((-1), ν) else ed_b (f_X9_ofStory x1 6 ν) (fun r3 => (if r3 = 1 then ed_b (f_X9_record ν) (fun ν5 => ed_g (ed_in (f_X9_storyAt x1 6) 1683) ( ed_t (em_up ν5 1 (f_X9_storyAt x1 6).toNatClampNeg 0) (fun ν8 => ed_b (f_X9_ofStory x1 5 ν8) (fun r9 => ed_g (ed_in 0 1683) ( ed_t (r9 - (ν8 1 (0 : Int32).toNatClampNeg)) (fun y11 => (if y11 ≤ 0 then some (0, ν8) else some (y11, ν8)))))))) else some ((-4), ν)))))
def f_X9_setEmbargo (x1 x2 : Int32) (ν : em_MM) : Option (Int32 × em_MM) :=
  ed_b (f_X9_isStory x1 ν) (fun r1 => (if r1 = 0 then some ((-1), ν) else (if (f_X9_in x2 0 999) = 0 then some ((-2), ν) else ed_b (f_X9_ofStory x1 6 ν) (fun r5 => (if r5 ≤ 1 then ed_b2 (f_X9_becomes (f_X9_storyAt x1 5) x2 ν) (fun r8 ν8 => (some (r8, ν8))) else some ((-4), ν))))))
def f_X9_correct (x1 : Int32) (ν : em_MM) : Option (Int32 × em_MM) :=
  ed_b (f_X9_isStory x1 ν) (fun r1 => (if r1 = 0 then some ((-1), ν) else ed_b (f_X9_ofStory x1 6 ν) (fun r3 => (if r3 = 2 then ed_b (f_X9_ofStory x1 7 ν) (fun r5 => (if r5 = 6 then some ((-3), ν) else ed_b (f_X9_record ν) (fun ν7 => ed_b (f_X9_ofStory x1 7 ν7) (fun r8 => ed_g (ed_in 0 1683) ( ed_g (ed_in (f_X9_storyAt x1 (10 + r8)) 1683) ( ed_t (em_up ν7 1 (f_X9_storyAt x1 (10 + r8)).toNatClampNeg (ν7 1 (0 : Int32).toNatClampNeg)) (fun ν12 => ed_g (ed_in (f_X9_storyAt x1 7) 1683) ( ed_g (ed_in (f_X9_storyAt x1 7) 1683) ( ed_t (em_up ν12 1 (f_X9_storyAt x1 7).toNatClampNeg ((ν12 1 (f_X9_storyAt x1 7).toNatClampNeg) + 1)) (fun ν16 => ed_b (f_X9_log 5 x1 (-5) ν16) (fun ν17 => ed_b (f_X9_ofStory x1 7 ν17) (fun r18 => (some (r18, ν17)))))))))))))) else some ((-4), ν)))))
def f_X9_inUse_5 (ν : em_MM) : Nat → Int32 → Int32 → Int32 → Int32 → Option Int32
  | 0, _, _, _, _ => none
  | n + 1, x1, x2, x3, x4 =>
    ed_g (ed_in 3 1683) ( (if (ν 1 (3 : Int32).toNatClampNeg) ≤ x4 then some x3 else ed_b (f_X9_ofCopy x4 0 ν) (fun r3 => (if r3 = x1 then ed_b (f_X9_ofCopy x4 2 ν) (fun r5 => (if r5 = 1 then (if x2 = 0 then f_X9_inUse_5 ν n x1 x2 (x3 + 1) (x4 + 1) else ed_b (f_X9_ofCopy x4 5 ν) (fun r8 => ed_b (f_X9_ofStory x1 7 ν) (fun r9 => (if r8 = r9 then f_X9_inUse_5 ν n x1 x2 (x3 + 1) (x4 + 1) else f_X9_inUse_5 ν n x1 x2 (x3 + 0) (x4 + 1))))) else f_X9_inUse_5 ν n x1 x2 (x3 + 0) (x4 + 1))) else f_X9_inUse_5 ν n x1 x2 (x3 + 0) (x4 + 1)))))
def f_X9_inUse (x1 x2 : Int32) (ν : em_MM) : Option Int32 :=
  f_X9_inUse_5 ν ed_N x1 x2 0 0
def f_X9_kill (x1 : Int32) (ν : em_MM) : Option (Int32 × em_MM) :=
  ed_b (f_X9_isStory x1 ν) (fun r1 => (if r1 = 0 then some ((-1), ν) else ed_b (f_X9_ofStory x1 6 ν) (fun r3 => (if r3 = 3 then some ((-5), ν) else ed_b (f_X9_record ν) (fun ν5 => ed_g (ed_in (f_X9_storyAt x1 6) 1683) ( ed_t (em_up ν5 1 (f_X9_storyAt x1 6).toNatClampNeg 3) (fun ν8 => ed_g (ed_in 0 1683) ( ed_g (ed_in (f_X9_storyAt x1 9) 1683) ( ed_t (em_up ν8 1 (f_X9_storyAt x1 9).toNatClampNeg (ν8 1 (0 : Int32).toNatClampNeg)) (fun ν12 => ed_b (f_X9_log 6 x1 (-5) ν12) (fun ν13 => ed_b (f_X9_inUse x1 0 ν13) (fun r14 => (some (r14, ν13))))))))))))))
def f_X9_pass_38  : Nat → Int32 → Int32 → Int32 → em_MM → Option (Int32 × em_MM)
  | 0, _, _, _, _ => none
  | n + 1, x1, x2, x3, ν =>
    (if x1 ≤ x3 then some (x2, ν) else ed_b2 (f_X9_oneHour ν) (fun r7 ν7 => (f_X9_pass_38  n x1 (x2 + r7) (x3 + 1) ν7)))
def f_X9_pass (x1 : Int32) (ν : em_MM) : Option (Int32 × em_MM) :=
  (if (f_X9_in x1 1 100) = 0 then some ((-2), ν) else ed_g (ed_in 0 1683) ( (if ((ν 1 (0 : Int32).toNatClampNeg) + x1) ≤ 9999 then ed_b (f_X9_record ν) (fun ν5 => (f_X9_pass_38 ed_N x1 0 0 ν5)) else some ((-4), ν))))
def f_X9_undo_22  : Nat → Int32 → em_MM → Option (Int32 × em_MM)
  | 0, _, _ => none
  | n + 1, x1, ν =>
    (if 1683 ≤ x1 then some ((ν 0 3), ν) else ed_g (ed_in ((1683 * (ν 0 3)) + x1) 6732) ( ed_g (ed_in x1 1683) ( ed_t (em_up ν 1 x1.toNatClampNeg (ν 3 ((1683 * (ν 0 3)) + x1).toNatClampNeg)) (fun ν6 => (f_X9_undo_22  n (x1 + 1) ν6)))))
def f_X9_undo  (ν : em_MM) : Option (Int32 × em_MM) :=
  (if (ν 0 3) = 0 then some ((-5), ν) else ed_t (em_up ν 0 3 ((ν 0 3) - 1)) (fun ν2 => (f_X9_undo_22 ed_N 0 ν2)))
def f_X9_keep_2  : Nat → Int32 → em_MM → Option (Int32 × em_MM)
  | 0, _, _ => none
  | n + 1, x1, ν =>
    (if 1683 ≤ x1 then ed_t (em_up ν 0 5 1) (fun ν2 => ed_g (ed_in 0 1683) ( (some ((ν2 1 (0 : Int32).toNatClampNeg), ν2)))) else ed_g (ed_in x1 1683) ( ed_g (ed_in x1 1683) ( ed_t (em_up ν 4 x1.toNatClampNeg (ν 1 x1.toNatClampNeg)) (fun ν6 => (f_X9_keep_2  n (x1 + 1) ν6)))))
def f_X9_keep  (ν : em_MM) : Option (Int32 × em_MM) :=
  f_X9_keep_2 ed_N 0 ν
def f_X9_restore_16  : Nat → Int32 → em_MM → Option (Int32 × em_MM)
  | 0, _, _ => none
  | n + 1, x1, ν =>
    (if 1683 ≤ x1 then ed_g (ed_in 0 1683) ( (some ((ν 1 (0 : Int32).toNatClampNeg), ν))) else ed_g (ed_in x1 1683) ( ed_g (ed_in x1 1683) ( ed_t (em_up ν 1 x1.toNatClampNeg (ν 4 x1.toNatClampNeg)) (fun ν7 => (f_X9_restore_16  n (x1 + 1) ν7)))))
def f_X9_restore  (ν : em_MM) : Option (Int32 × em_MM) :=
  (if (ν 0 5) = 0 then some ((-5), ν) else ed_b (f_X9_record ν) (fun ν2 => (f_X9_restore_16 ed_N 0 ν2)))
def f_X9_story_15 (ν : em_MM) : Nat → Int32 → Int32 → Int32 → Int32 → Option Int32
  | 0, _, _, _, _ => none
  | n + 1, x1, x2, x3, x4 =>
    ed_g (ed_in 3 1683) ( (if (ν 1 (3 : Int32).toNatClampNeg) ≤ x4 then (if x2 = 0 then ed_b (f_X9_ofStory x1 0 ν) (fun r16 => (some r16)) else if x2 = 1 then ed_b (f_X9_ofStory x1 1 ν) (fun r17 => (some r17)) else if x2 = 2 then ed_b (f_X9_ofStory x1 5 ν) (fun r18 => (some r18)) else if x2 = 3 then ed_b (f_X9_ofStory x1 6 ν) (fun r19 => (some r19)) else if x2 = 4 then ed_b (f_X9_ofStory x1 7 ν) (fun r20 => (some r20)) else if x2 = 5 then ed_b (f_X9_ofStory x1 8 ν) (fun r21 => (some r21)) else if x2 = 6 then ed_b (f_X9_ofStory x1 9 ν) (fun r22 => (some r22)) else if x2 = 7 then ed_b (f_X9_ofStory x1 16 ν) (fun r23 => (some r23)) else if x2 = 8 then some x3 else if x2 = 9 then ed_b (f_X9_inUse x1 0 ν) (fun r24 => (some r24)) else if x2 = 10 then ed_b (f_X9_inUse x1 1 ν) (fun r25 => (some r25)) else some (-2)) else ed_b (f_X9_ofCopy x4 0 ν) (fun r26 => (if r26 = x1 then f_X9_story_15 ν n x1 x2 (x3 + 1) (x4 + 1) else f_X9_story_15 ν n x1 x2 (x3 + 0) (x4 + 1)))))
def f_X9_story (x1 x2 : Int32) (ν : em_MM) : Option Int32 :=
  ed_b (f_X9_isStory x1 ν) (fun r1 => (if r1 = 0 then some (-1) else f_X9_story_15 ν ed_N x1 x2 0 0))
def f_X9_rowOf (x1 x2 x3 x4 : Int32) (ν : em_MM) : Option Int32 :=
  ed_b (f_X9_isStory x1 ν) (fun r1 => (if r1 = 0 then some (-1) else (if 0 ≤ x2 then ed_b (f_X9_ofStory x1 x3 ν) (fun r4 => (if r4 ≤ x2 then some (-5) else ed_b (f_X9_ofStory x1 (x4 + x2) ν) (fun r6 => (some r6)))) else some (-2))))
def f_X9_byline (x1 x2 : Int32) (ν : em_MM) : Option Int32 :=
  ed_b (f_X9_rowOf x1 x2 1 2 ν) (fun r1 => (some r1))
def f_X9_slugChar (x1 x2 : Int32) (ν : em_MM) : Option Int32 :=
  ed_b (f_X9_rowOf x1 x2 16 17 ν) (fun r1 => (some r1))
def f_X9_correction (x1 x2 : Int32) (ν : em_MM) : Option Int32 :=
  ed_b (f_X9_rowOf x1 x2 7 10 ν) (fun r1 => (some r1))
def f_X9_inUseFor_4 (ν : em_MM) : Nat → Int32 → Int32 → Int32 → Option Int32
  | 0, _, _, _ => none
  | n + 1, x1, x2, x3 =>
    ed_g (ed_in 3 1683) ( (if (ν 1 (3 : Int32).toNatClampNeg) ≤ x3 then some x2 else ed_b (f_X9_ofCopy x3 1 ν) (fun r3 => (if r3 = x1 then ed_b (f_X9_ofCopy x3 2 ν) (fun r5 => (if r5 = 1 then f_X9_inUseFor_4 ν n x1 (x2 + 1) (x3 + 1) else f_X9_inUseFor_4 ν n x1 (x2 + 0) (x3 + 1))) else f_X9_inUseFor_4 ν n x1 (x2 + 0) (x3 + 1)))))
def f_X9_inUseFor (x1 : Int32) (ν : em_MM) : Option Int32 :=
  f_X9_inUseFor_4 ν ed_N x1 0 0
def f_X9_client (x1 x2 : Int32) (ν : em_MM) : Option Int32 :=
  ed_b (f_X9_isClient x1 ν) (fun r1 => (if r1 = 0 then some (-1) else (if (f_X9_in x2 0 10) = 0 then some (-2) else (if 9 ≤ x2 then (if x2 = 9 then ed_b (f_X9_inUseFor x1 ν) (fun r8 => (some r8)) else ed_b (f_X9_ofClient x1 9 ν) (fun r7 => (some r7))) else ed_b (f_X9_ofClient x1 x2 ν) (fun r9 => (some r9))))))
def f_X9_wrote_5 (ν : em_MM) : Nat → Int32 → Int32 → Int32 → Int32 → Option Int32
  | 0, _, _, _, _ => none
  | n + 1, x1, x2, x3, x4 =>
    ed_b (f_X9_ofStory x2 1 ν) (fun r1 => (if r1 ≤ x4 then ed_g (ed_bo x3) ( (some x3)) else (if x3 = 0 then ed_b (f_X9_ofStory x2 (2 + x4) ν) (fun r5 => (if r5 = x1 then f_X9_wrote_5 ν n x1 x2 1 (x4 + 1) else f_X9_wrote_5 ν n x1 x2 0 (x4 + 1))) else f_X9_wrote_5 ν n x1 x2 1 (x4 + 1))))
def f_X9_wrote (x1 x2 : Int32) (ν : em_MM) : Option Int32 :=
  f_X9_wrote_5 ν ed_N x1 x2 0 0
def f_X9_person_32 (ν : em_MM) : Nat → Int32 → Int32 → Int32 → Int32 → Int32 → Option Int32
  | 0, _, _, _, _, _ => none
  | n + 1, x1, x2, x3, x4, x5 =>
    ed_g (ed_in 2 1683) ( (if (ν 1 (2 : Int32).toNatClampNeg) ≤ x5 then (if 2 ≤ x2 then (if x2 = 2 then some x3 else some x4) else ed_g (ed_in ((87 + (2 * x1)) + x2) 1683) ( (some (ν 1 ((87 + (2 * x1)) + x2).toNatClampNeg)))) else ed_b (f_X9_wrote x1 x5 ν) (fun r10 => (if r10 = 0 then ed_b (f_X9_wrote x1 x5 ν) (fun r12 => (if r12 = 0 then f_X9_person_32 ν n x1 x2 (x3 + 0) (x4 + 0) (x5 + 1) else ed_b (f_X9_inUse x5 0 ν) (fun r14 => (f_X9_person_32 ν n x1 x2 (x3 + 0) (x4 + r14) (x5 + 1))))) else ed_b (f_X9_wrote x1 x5 ν) (fun r15 => (if r15 = 0 then f_X9_person_32 ν n x1 x2 (x3 + 1) (x4 + 0) (x5 + 1) else ed_b (f_X9_inUse x5 0 ν) (fun r17 => (f_X9_person_32 ν n x1 x2 (x3 + 1) (x4 + r17) (x5 + 1)))))))))
def f_X9_person (x1 x2 : Int32) (ν : em_MM) : Option Int32 :=
  (if (f_X9_in x1 0 9) = 0 then some (-1) else (if (f_X9_in x2 0 3) = 0 then some (-2) else f_X9_person_32 ν ed_N x1 x2 0 0 0))
def f_X9_copyOf_5 (ν : em_MM) : Nat → Int32 → Int32 → Int32 → Int32 → Option Int32
  | 0, _, _, _, _ => none
  | n + 1, x1, x2, x3, x4 =>
    ed_g (ed_in 3 1683) ( (if (ν 1 (3 : Int32).toNatClampNeg) ≤ x4 then some x3 else ed_b (f_X9_ofCopy x4 0 ν) (fun r3 => (if r3 = x1 then ed_b (f_X9_ofCopy x4 1 ν) (fun r5 => (if r5 = x2 then f_X9_copyOf_5 ν n x1 x2 x4 (x4 + 1) else f_X9_copyOf_5 ν n x1 x2 x3 (x4 + 1))) else f_X9_copyOf_5 ν n x1 x2 x3 (x4 + 1)))))
def f_X9_copyOf (x1 x2 : Int32) (ν : em_MM) : Option Int32 :=
  f_X9_copyOf_5 ν ed_N x1 x2 (-1) 0
def f_X9_dueNow_9 (ν : em_MM) : Nat → Int32 → Int32 → Int32 → Option Int32
  | 0, _, _, _ => none
  | n + 1, x1, x2, x3 =>
    ed_b (f_X9_ofCopy x1 2 ν) (fun r2 => (if r2 = 1 then ed_b (f_X9_ofCopy x1 0 ν) (fun r4 => ed_b (f_X9_ofStory r4 7 ν) (fun r5 => (if r5 ≤ x3 then some x2 else ed_g (ed_in 0 1683) ( ed_b (f_X9_correctionDue x1 x3 ν) (fun r8 => (if (ν 1 (0 : Int32).toNatClampNeg) < r8 then f_X9_dueNow_9 ν n x1 (x2 + 0) (x3 + 1) else f_X9_dueNow_9 ν n x1 (x2 + 1) (x3 + 1))))))) else some x2))
def f_X9_dueNow (x1 : Int32) (ν : em_MM) : Option Int32 :=
  ed_b (f_X9_ofCopy x1 5 ν) (fun r1 => (f_X9_dueNow_9 ν ed_N x1 0 r1))
def f_X9_copy (x1 x2 x3 : Int32) (ν : em_MM) : Option Int32 :=
  ed_b (f_X9_isStory x1 ν) (fun r1 => (if r1 = 0 then some (-1) else ed_b (f_X9_isClient x2 ν) (fun r3 => (if r3 = 0 then some (-1) else ed_b (f_X9_copyOf x1 x2 ν) (fun r5 => (if 0 ≤ r5 then ed_b (f_X9_ofCopy r5 2 ν) (fun r7 => (if r7 = 1 then ed_b (f_X9_ofStory x1 7 ν) (fun r23 => ed_b (f_X9_ofCopy r5 5 ν) (fun r24 => (if x3 = 0 then ed_b (f_X9_ofCopy r5 2 ν) (fun r34 => (some r34)) else if x3 = 1 then ed_b (f_X9_ofCopy r5 3 ν) (fun r35 => (some r35)) else if x3 = 2 then ed_b (f_X9_ofCopy r5 4 ν) (fun r36 => (some r36)) else if x3 = 3 then ed_b (f_X9_ofCopy r5 5 ν) (fun r37 => (some r37)) else if x3 = 4 then some (r23 - r24) else if x3 = 5 then ed_b (f_X9_dueNow r5 ν) (fun r38 => (some r38)) else if x3 = 6 then (if (r23 - r24) ≤ 0 then some (-5) else ed_b (f_X9_ofCopy r5 5 ν) (fun r40 => ed_b (f_X9_correctionDue r5 r40 ν) (fun r41 => (some r41)))) else if x3 = 7 then ed_b (f_X9_ofStory x1 6 ν) (fun r42 => (if r42 = 3 then ed_b (f_X9_killDue r5 ν) (fun r44 => (some r44)) else some (-5))) else if x3 = 8 then ed_b (f_X9_useEnds r5 ν) (fun r45 => (some r45)) else some (-2)))) else (if x3 = 0 then ed_b (f_X9_ofCopy r5 2 ν) (fun r18 => (some r18)) else if x3 = 1 then ed_b (f_X9_ofCopy r5 3 ν) (fun r19 => (some r19)) else if x3 = 2 then ed_b (f_X9_ofCopy r5 4 ν) (fun r20 => (some r20)) else if x3 = 3 then ed_b (f_X9_ofCopy r5 5 ν) (fun r21 => (some r21)) else if x3 = 4 then some 0 else if x3 = 5 then ed_b (f_X9_dueNow r5 ν) (fun r22 => (some r22)) else if x3 = 6 then some (-5) else if x3 = 7 then some (-5) else if x3 = 8 then some (-5) else some (-2)))) else some (-1)))))))
def f_X9_copyAt (x1 : Int32) (ν : em_MM) : Option Int32 :=
  (if 0 ≤ x1 then ed_g (ed_in 3 1683) ( (if (ν 1 (3 : Int32).toNatClampNeg) ≤ x1 then some (-5) else ed_b (f_X9_ofCopy x1 0 ν) (fun r4 => ed_b (f_X9_ofCopy x1 1 ν) (fun r5 => (some ((10 * r4) + r5)))))) else some (-2))
def f_X9_bringBack_2  : Nat → Int32 → em_MM → Option em_MM
  | 0, _, _ => none
  | n + 1, x1, ν =>
    (if 1683 ≤ x1 then some ν else ed_g (ed_in x1 1683) ( ed_g (ed_in x1 1683) ( ed_t (em_up ν 1 x1.toNatClampNeg (ν 2 x1.toNatClampNeg)) (fun ν4 => (f_X9_bringBack_2  n (x1 + 1) ν4)))))
def f_X9_bringBack  (ν : em_MM) : Option em_MM :=
  f_X9_bringBack_2 ed_N 0 ν
def f_X9_setAside_2  : Nat → Int32 → em_MM → Option em_MM
  | 0, _, _ => none
  | n + 1, x1, ν =>
    (if 1683 ≤ x1 then some ν else ed_g (ed_in x1 1683) ( ed_g (ed_in x1 1683) ( ed_t (em_up ν 2 x1.toNatClampNeg (ν 1 x1.toNatClampNeg)) (fun ν4 => (f_X9_setAside_2  n (x1 + 1) ν4)))))
def f_X9_setAside  (ν : em_MM) : Option em_MM :=
  f_X9_setAside_2 ed_N 0 ν
def f_X9_carriedIn_40  : Nat → Int32 → Int32 → Int32 → em_MM → Option (Int32 × em_MM)
  | 0, _, _, _, _ => none
  | n + 1, x1, x3, x4, ν =>
    (if 101 ≤ x4 then ed_b (f_X9_bringBack ν) (fun ν9 => (if x4 ≤ 100 then some (x4, ν9) else some ((-5), ν9))) else ed_b (f_X9_ofCopy x3 2 ν) (fun r11 => (if r11 = 1 then ed_b (f_X9_ofCopy x3 5 ν) (fun r14 => ed_b (f_X9_ofStory x1 7 ν) (fun r15 => (if r15 ≤ r14 then ed_b (f_X9_bringBack ν) (fun ν17 => (if x4 ≤ 100 then some (x4, ν17) else some ((-5), ν17))) else ed_b2 (f_X9_oneHour ν) (fun r19 ν19 => (f_X9_carriedIn_40  n x1 x3 (x4 + 1) ν19))))) else ed_b2 (f_X9_oneHour ν) (fun r13 ν13 => (f_X9_carriedIn_40  n x1 x3 (x4 + 1) ν13)))))
def f_X9_carriedIn (x1 x2 : Int32) (ν : em_MM) : Option (Int32 × em_MM) :=
  ed_b (f_X9_isStory x1 ν) (fun r1 => (if r1 = 0 then some ((-1), ν) else ed_b (f_X9_isClient x2 ν) (fun r3 => (if r3 = 0 then some ((-1), ν) else ed_b (f_X9_copyOf x1 x2 ν) (fun r5 => (if 0 ≤ r5 then ed_b (f_X9_setAside ν) (fun ν7 => (f_X9_carriedIn_40 ed_N x1 r5 0 ν7)) else some ((-1), ν)))))))
def f_X9_wouldCome_29  : Nat → Int32 → Int32 → Int32 → em_MM → Option (Int32 × em_MM)
  | 0, _, _, _, _ => none
  | n + 1, x1, x2, x3, ν =>
    (if x2 ≤ x3 then ed_b (f_X9_ofClient x1 8 ν) (fun r7 => ed_g (ed_in (f_X9_clientAt x1 8) 1683) ( ed_t (r7 - (ν 2 (f_X9_clientAt x1 8).toNatClampNeg)) (fun y10 => ed_b (f_X9_bringBack ν) (fun ν11 => (some (y10, ν11)))))) else ed_b2 (f_X9_oneHour ν) (fun r12 ν12 => (f_X9_wouldCome_29  n x1 x2 (x3 + 1) ν12)))
def f_X9_wouldCome (x1 x2 : Int32) (ν : em_MM) : Option (Int32 × em_MM) :=
  ed_b (f_X9_isClient x1 ν) (fun r1 => (if r1 = 0 then some ((-1), ν) else (if (f_X9_in x2 1 100) = 0 then some ((-2), ν) else ed_b (f_X9_setAside ν) (fun ν5 => (f_X9_wouldCome_29 ed_N x1 x2 0 ν5)))))
def f_X9_event (x1 x2 : Int32) (ν : em_MM) : Option Int32 :=
  (if x1 < 0 then some (-2) else (if (f_X9_in x2 0 3) = 0 then some (-2) else ed_g (ed_in 6 1683) ( (if x1 < (ν 1 (6 : Int32).toNatClampNeg) then ed_g (ed_in ((1647 + (3 * x1)) + 1) 1683) ( ed_t ((ν 1 ((1647 + (3 * x1)) + 1).toNatClampNeg) - (ν 1 ((1647 + (3 * x1)) + 1).toNatClampNeg) / 10 * 10) (fun y7 => (if x2 = 0 then ed_g (ed_in (1647 + (3 * x1)) 1683) ( (some (ν 1 (1647 + (3 * x1)).toNatClampNeg))) else (if x2 = 1 then ed_g (ed_in ((1647 + (3 * x1)) + 1) 1683) ( (some ((ν 1 ((1647 + (3 * x1)) + 1).toNatClampNeg) / 10))) else (if x2 = 2 then (if y7 = 9 then some (-5) else some y7) else ed_g (ed_in ((1647 + (3 * x1)) + 2) 1683) ( (some (ν 1 ((1647 + (3 * x1)) + 2).toNatClampNeg)))))))) else some (-5)))))
def f_X9_personsOfAll_15 (k4 : Int32 → Int32 → Option Int32) (ν : em_MM) : Nat → Int32 → Int32 → Int32 → Int32 → Option Int32
  | 0, _, _, _, _ => none
  | n + 1, x1, x2, x3, x4 =>
    ed_g (ed_in 2 1683) ( (if (ν 1 (2 : Int32).toNatClampNeg) ≤ x4 then (if x3 = 0 then k4 (x1 + 0) (x2 + 1) else k4 (x1 + 1) (x2 + 1)) else (if x3 = 0 then ed_b (f_X9_wrote x2 x4 ν) (fun r6 => (if r6 = 0 then f_X9_personsOfAll_15 k4 ν n x1 x2 0 (x4 + 1) else f_X9_personsOfAll_15 k4 ν n x1 x2 1 (x4 + 1))) else f_X9_personsOfAll_15 k4 ν n x1 x2 1 (x4 + 1))))
def f_X9_personsOfAll_4 (ν : em_MM) : Nat → Int32 → Int32 → Option Int32
  | 0, _, _ => none
  | n + 1, x1, x2 =>
    (if 10 ≤ x2 then some x1 else f_X9_personsOfAll_15 (fun a0 a1 => f_X9_personsOfAll_4 ν n a0 a1) ν ed_N x1 x2 0 0)
def f_X9_personsOfAll  (ν : em_MM) : Option Int32 :=
  f_X9_personsOfAll_4 ν ed_N 0 0
def f_X9_count_7 (ν : em_MM) : Nat → Int32 → Int32 → Int32 → Int32 → Option Int32
  | 0, _, _, _, _ => none
  | n + 1, x1, x2, x3, x4 =>
    ed_g (ed_in 3 1683) ( (if (ν 1 (3 : Int32).toNatClampNeg) ≤ x4 then (if x1 = 0 then ed_g (ed_in x1 1683) ( (some (ν 1 x1.toNatClampNeg))) else if x1 = 1 then ed_g (ed_in x1 1683) ( (some (ν 1 x1.toNatClampNeg))) else if x1 = 2 then ed_g (ed_in x1 1683) ( (some (ν 1 x1.toNatClampNeg))) else if x1 = 3 then ed_g (ed_in x1 1683) ( (some (ν 1 x1.toNatClampNeg))) else if x1 = 4 then some x2 else if x1 = 5 then some x2 else if x1 = 6 then some x2 else if x1 = 7 then some x2 else if x1 = 8 then some x2 else if x1 = 9 then some x3 else if x1 = 10 then ed_g (ed_in 5 1683) ( (some (ν 1 (5 : Int32).toNatClampNeg))) else if x1 = 11 then ed_b (f_X9_personsOfAll ν) (fun r23 => (some r23)) else if x1 = 12 then ed_g (ed_in 4 1683) ( (some (ν 1 (4 : Int32).toNatClampNeg))) else if x1 = 13 then some (ν 0 3) else if x1 = 14 then some (ν 0 7) else some (-2)) else ed_b (f_X9_ofCopy x4 2 ν) (fun r25 => (if r25 = (x1 - 4) then ed_b (f_X9_dueNow x4 ν) (fun r29 => (if r29 ≤ 0 then f_X9_count_7 ν n x1 (x2 + 1) (x3 + 0) (x4 + 1) else f_X9_count_7 ν n x1 (x2 + 1) (x3 + 1) (x4 + 1))) else ed_b (f_X9_dueNow x4 ν) (fun r27 => (if r27 ≤ 0 then f_X9_count_7 ν n x1 (x2 + 0) (x3 + 0) (x4 + 1) else f_X9_count_7 ν n x1 (x2 + 0) (x3 + 1) (x4 + 1)))))))
def f_X9_count (x1 : Int32) (ν : em_MM) : Option Int32 :=
  f_X9_count_7 ν ed_N x1 0 0 0
