def wsL_law_r1 : List Cond := [Cond.classLink RL 7 RX4, Cond.instantiable RX4 5, Cond.initialized RX4, Cond.classLink RL 10 RX5, Cond.instantiable RX5 19, Cond.initialized RX5, Cond.methodLink RL 9 yX4_init, Cond.instanceMethod yX4_init, Cond.code yX4_init cX4_init 2 none, Cond.methodLink RX4 3 objectInit, Cond.instanceMethod objectInit, Cond.code objectInit ⟨#[0xb1]⟩ 1 none, Cond.classLink RX4 9 RX3, Cond.instantiable RX3 2, Cond.initialized RX3, Cond.fieldLink RX4 12 "LoadCouncil" "text" "LLoadCouncil$Text;", Cond.classLink RX4 16 RX0, Cond.instantiable RX0 7, Cond.initialized RX0, Cond.fieldLink RX4 19 "LoadCouncil" "now" "LLoadCouncil$Council;", Cond.fieldLink RX4 23 "LoadCouncil" "trial" "LLoadCouncil$Council;", Cond.classLink RX4 26 RX2, Cond.instantiable RX2 3, Cond.initialized RX2]
def wsL_law_r2 : List Cond := [Cond.fieldLink RX4 29 "LoadCouncil" "past" "LLoadCouncil$Past;", Cond.classLink RX4 33 RX1, Cond.instantiable RX1 9, Cond.initialized RX1, Cond.fieldLink RX4 36 "LoadCouncil" "election" "LLoadCouncil$Election;", Cond.instanceMethod yX3_init, Cond.code yX3_init cX3_init 1 none, Cond.methodLink RX3 3 objectInit, Cond.arrayClass .int, Cond.fieldLink RX3 9 "LoadCouncil$Text" "letters" "[I", Cond.instanceMethod yX0_init, Cond.code yX0_init cX0_init 1 none, Cond.methodLink RX0 3 objectInit, Cond.fieldLink RX0 9 "LoadCouncil$Council" "voters" "[I", Cond.fieldLink RX0 15 "LoadCouncil$Council" "sets" "[I", Cond.fieldLink RX0 18 "LoadCouncil$Council" "rank" "[I", Cond.instanceMethod yX2_init, Cond.code yX2_init cX2_init 2 none, Cond.methodLink RX2 3 objectInit, Cond.classLink RX2 9 RX0, Cond.fieldLink RX2 11 "LoadCouncil$Past" "ring" "[LLoadCouncil$Council;", Cond.instanceMethod yX1_init, Cond.code yX1_init cX1_init 1 none, Cond.methodLink RX1 3 objectInit]
def wsL_law_r3 : List Cond := [Cond.fieldLink RX1 9 "LoadCouncil$Election" "order" "[I", Cond.arrayClass .long, Cond.fieldLink RX1 15 "LoadCouncil$Election" "above" "[J", Cond.fieldLink RX1 19 "LoadCouncil$Election" "below" "[J", Cond.fieldLink RX1 22 "LoadCouncil$Election" "support" "[I", Cond.fieldLink RX1 25 "LoadCouncil$Election" "worth" "[J", Cond.fieldLink RX1 28 "LoadCouncil$Election" "loads" "[J", Cond.methodLink RX4 42 yJ0_length_8abf5, Cond.instanceMethod yJ0_length_8abf5, Cond.selects RJ0 yJ0_length_8abf5 yJ0_length_8abf5, Cond.initialized RJ0, Cond.code yJ0_length_8abf5 cJ0_length_8abf5 1 (some .int), Cond.fieldLink RJ0 9 "java/lang/String" "value" "[B", Cond.methodLink RJ0 335 yJ0_coder_7d493, Cond.instanceMethod yJ0_coder_7d493, Cond.selects RJ0 yJ0_coder_7d493 yJ0_coder_7d493, Cond.code yJ0_coder_7d493 cJ0_coder_7d493 1 (some .byte), Cond.fieldLink RJ0 38 "java/lang/String" "COMPACT_STRINGS" "Z", Cond.fieldLink RJ0 15 "java/lang/String" "coder" "B", Cond.methodLink RX4 48 yJ0_charAt_5068e, Cond.instanceMethod yJ0_charAt_5068e, Cond.selects RJ0 yJ0_charAt_5068e yJ0_charAt_5068e, Cond.code yJ0_charAt_5068e cJ0_charAt_5068e 2 (some .char), Cond.methodLink RJ0 492 yJ0_isLatin1_aae02]
def wsL_law_r4 : List Cond := [Cond.instanceMethod yJ0_isLatin1_aae02, Cond.selects RJ0 yJ0_isLatin1_aae02 yJ0_isLatin1_aae02, Cond.code yJ0_isLatin1_aae02 cJ0_isLatin1_aae02 1 (some .boolean), Cond.methodLink RJ0 495 yJ1_charAt_3b067, Cond.static yJ1_charAt_3b067, Cond.initialized RJ1, Cond.code yJ1_charAt_3b067 cJ1_charAt_3b067 2 (some .char), Cond.methodLink RJ1 9 yJ0_checkIndex_df160, Cond.static yJ0_checkIndex_df160, Cond.code yJ0_checkIndex_df160 cJ0_checkIndex_df160 2 none, Cond.fieldLink RJ0 1053 "jdk/internal/util/Preconditions" "SIOOBE_FORMATTER" "Ljava/util/function/BiFunction;", Cond.methodLink RJ0 1059 yJ3_checkIndex_8e157, Cond.static yJ3_checkIndex_8e157, Cond.initialized RJ3, Cond.code yJ3_checkIndex_8e157 cJ3_checkIndex_8e157 3 (some .int), Cond.methodLink RJ0 498 yJ2_charAt_3b067, Cond.static yJ2_charAt_3b067, Cond.initialized RJ2, Cond.code yJ2_charAt_3b067 cJ2_charAt_3b067 2 (some .char), Cond.methodLink RJ2 67 yJ2_checkIndex_2214a, Cond.static yJ2_checkIndex_2214a, Cond.code yJ2_checkIndex_2214a cJ2_checkIndex_2214a 2 none, Cond.methodLink RJ2 48 yJ2_length_9d52b, Cond.static yJ2_length_9d52b]
def wsL_law_r5 : List Cond := [Cond.code yJ2_length_9d52b cJ2_length_9d52b 1 (some .int), Cond.methodLink RJ2 414 yJ0_checkIndex_df160, Cond.methodLink RJ2 71 yJ2_getChar_3b067, Cond.static yJ2_getChar_3b067, Cond.code yJ2_getChar_3b067 cJ2_getChar_3b067 2 (some .char), Cond.fieldLink RJ2 44 "java/lang/StringUTF16" "$assertionsDisabled" "Z", Cond.fieldLink RJ2 59 "java/lang/StringUTF16" "HI_BYTE_SHIFT" "I", Cond.fieldLink RJ2 63 "java/lang/StringUTF16" "LO_BYTE_SHIFT" "I", Cond.instanceMethod yX3_add, Cond.selects RX3 yX3_add yX3_add, Cond.code yX3_add cX3_add 2 (some .boolean), Cond.fieldLink RX3 15 "LoadCouncil$Text" "length" "I", Cond.instanceMethod yX3_readInto, Cond.selects RX3 yX3_readInto yX3_readInto, Cond.code yX3_readInto cX3_readInto 4 (some .int), Cond.instanceMethod yX0_beginWith, Cond.selects RX0 yX0_beginWith yX0_beginWith, Cond.code yX0_beginWith cX0_beginWith 3 none, Cond.fieldLink RX0 21 "LoadCouncil$Council" "candidates" "I", Cond.fieldLink RX0 25 "LoadCouncil$Council" "ballots" "I", Cond.fieldLink RX0 28 "LoadCouncil$Council" "seats" "I", Cond.fieldLink RX0 31 "LoadCouncil$Council" "withdrawn" "I", Cond.methodLink RX3 25 yX3_readItem, Cond.instanceMethod yX3_readItem]
def wsL_law_r6 : List Cond := [Cond.selects RX3 yX3_readItem yX3_readItem, Cond.code yX3_readItem cX3_readItem 5 (some .boolean), Cond.methodLink RX3 29 yX3_readCandidates, Cond.instanceMethod yX3_readCandidates, Cond.selects RX3 yX3_readCandidates yX3_readCandidates, Cond.code yX3_readCandidates cX3_readCandidates 5 (some .boolean), Cond.methodLink RX3 44 yX3_number, Cond.instanceMethod yX3_number, Cond.selects RX3 yX3_number yX3_number, Cond.code yX3_number cX3_number 6 (some .int), Cond.methodLink RX3 35 yX3_readBallot, Cond.instanceMethod yX3_readBallot, Cond.selects RX3 yX3_readBallot yX3_readBallot, Cond.code yX3_readBallot cX3_readBallot 7 (some .boolean), Cond.methodLink RX3 48 yX3_risingSet, Cond.instanceMethod yX3_risingSet, Cond.selects RX3 yX3_risingSet yX3_risingSet, Cond.code yX3_risingSet cX3_risingSet 8 (some .int), Cond.static yX4_isVoters, Cond.code yX4_isVoters cX4_isVoters 1 (some .boolean), Cond.instanceMethod yX0_allVoters, Cond.selects RX0 yX0_allVoters yX0_allVoters, Cond.code yX0_allVoters cX0_allVoters 1 (some .int), Cond.methodLink RX0 40 yX0_votersWhoAgree]
def wsL_law_r7 : List Cond := [Cond.instanceMethod yX0_votersWhoAgree, Cond.selects RX0 yX0_votersWhoAgree yX0_votersWhoAgree, Cond.code yX0_votersWhoAgree cX0_votersWhoAgree 4 (some .int), Cond.methodLink RX0 44 yX0_agreesTo, Cond.instanceMethod yX0_agreesTo, Cond.selects RX0 yX0_agreesTo yX0_agreesTo, Cond.code yX0_agreesTo cX0_agreesTo 3 (some .boolean), Cond.instanceMethod yX0_addBallot, Cond.selects RX0 yX0_addBallot yX0_addBallot, Cond.code yX0_addBallot cX0_addBallot 3 none, Cond.methodLink RX3 38 yX3_readSeats, Cond.instanceMethod yX3_readSeats, Cond.selects RX3 yX3_readSeats yX3_readSeats, Cond.code yX3_readSeats cX3_readSeats 5 (some .boolean), Cond.methodLink RX3 41 yX3_readRank, Cond.instanceMethod yX3_readRank, Cond.selects RX3 yX3_readRank yX3_readRank, Cond.code yX3_readRank cX3_readRank 7 (some .boolean), Cond.static yX4_hasBit, Cond.code yX4_hasBit cX4_hasBit 2 (some .boolean), Cond.instanceMethod yX3_clear, Cond.selects RX3 yX3_clear yX3_clear, Cond.code yX3_clear cX3_clear 1 none, Cond.methodLink RL 12 yX5_init]
def wsL_law_r8 : List Cond := [Cond.instanceMethod yX5_init, Cond.code yX5_init cX5_init 2 none, Cond.methodLink RX5 1 objectInit, Cond.fieldLink RX5 7 "LoadCouncilModel" "now" "[I", Cond.fieldLink RX5 13 "LoadCouncilModel" "read" "[I", Cond.fieldLink RX5 16 "LoadCouncilModel" "past" "[I", Cond.fieldLink RX5 19 "LoadCouncilModel" "text" "[I", Cond.fieldLink RX5 22 "LoadCouncilModel" "heads" "[I", Cond.fieldLink RX5 25 "LoadCouncilModel" "sets" "[I", Cond.fieldLink RX5 28 "LoadCouncilModel" "ranks" "[I", Cond.fieldLink RX5 31 "LoadCouncilModel" "loads" "[J", Cond.fieldLink RX5 35 "LoadCouncilModel" "order" "[I", Cond.fieldLink RX5 38 "LoadCouncilModel" "above" "[J", Cond.fieldLink RX5 41 "LoadCouncilModel" "under" "[J", Cond.methodLink RX5 44 yX5_adds, Cond.instanceMethod yX5_adds, Cond.selects RX5 yX5_adds yX5_adds, Cond.code yX5_adds cX5_adds 3 none, Cond.methodLink RL 13 yX4_write, Cond.instanceMethod yX4_write, Cond.selects RX4 yX4_write yX4_write, Cond.code yX4_write cX4_write 2 (some .int), Cond.methodLink RL 17 yX5_write, Cond.instanceMethod yX5_write]
def wsL_law_r9 : List Cond := [Cond.selects RX5 yX5_write yX5_write, Cond.code yX5_write cX5_write 2 (some .int), Cond.fieldLink RX5 52 "LoadCouncilModel" "letters" "I", Cond.methodLink RX5 48 yX5_in, Cond.static yX5_in, Cond.code yX5_in cX5_in 3 (some .boolean), Cond.methodLink RL 18 yX4_wipe, Cond.instanceMethod yX4_wipe, Cond.selects RX4 yX4_wipe yX4_wipe, Cond.code yX4_wipe cX4_wipe 2 (some .int), Cond.methodLink RL 22 yX5_wipe, Cond.instanceMethod yX5_wipe, Cond.selects RX5 yX5_wipe yX5_wipe, Cond.code yX5_wipe cX5_wipe 2 (some .int), Cond.methodLink RL 23 yX4_fault, Cond.instanceMethod yX4_fault, Cond.selects RX4 yX4_fault yX4_fault, Cond.code yX4_fault cX4_fault 1 (some .int), Cond.methodLink RL 26 yX5_fault, Cond.instanceMethod yX5_fault, Cond.selects RX5 yX5_fault yX5_fault, Cond.code yX5_fault cX5_fault 1 (some .int), Cond.methodLink RX5 103 yX5_faultOf, Cond.instanceMethod yX5_faultOf]
def wsL_law_r10 : List Cond := [Cond.selects RX5 yX5_faultOf yX5_faultOf, Cond.code yX5_faultOf cX5_faultOf 2 (some .int), Cond.fieldLink RX5 56 "LoadCouncilModel" "spot" "I", Cond.methodLink RX5 100 yX5_takesItem, Cond.instanceMethod yX5_takesItem, Cond.selects RX5 yX5_takesItem yX5_takesItem, Cond.code yX5_takesItem cX5_takesItem 3 (some .boolean), Cond.methodLink RX5 62 yX5_letterAt, Cond.instanceMethod yX5_letterAt, Cond.selects RX5 yX5_letterAt yX5_letterAt, Cond.code yX5_letterAt cX5_letterAt 2 (some .int), Cond.methodLink RX5 88 yX5_takesCandidates, Cond.instanceMethod yX5_takesCandidates, Cond.selects RX5 yX5_takesCandidates yX5_takesCandidates, Cond.code yX5_takesCandidates cX5_takesCandidates 2 (some .boolean), Cond.fieldLink RX5 59 "LoadCouncilModel" "value" "I", Cond.methodLink RX5 70 yX5_takesNumber, Cond.instanceMethod yX5_takesNumber, Cond.selects RX5 yX5_takesNumber yX5_takesNumber, Cond.code yX5_takesNumber cX5_takesNumber 4 (some .boolean), Cond.methodLink RX5 74 yX5_takes, Cond.instanceMethod yX5_takes, Cond.selects RX5 yX5_takes yX5_takes, Cond.code yX5_takes cX5_takes 3 (some .boolean)]
def wsL_law_r11 : List Cond := [Cond.methodLink RX5 91 yX5_takesBallot, Cond.instanceMethod yX5_takesBallot, Cond.selects RX5 yX5_takesBallot yX5_takesBallot, Cond.code yX5_takesBallot cX5_takesBallot 2 (some .boolean), Cond.methodLink RX5 78 yX5_takesSet, Cond.instanceMethod yX5_takesSet, Cond.selects RX5 yX5_takesSet yX5_takesSet, Cond.code yX5_takesSet cX5_takesSet 2 (some .boolean), Cond.methodLink RX5 66 yX5_isName, Cond.instanceMethod yX5_isName, Cond.selects RX5 yX5_isName yX5_isName, Cond.code yX5_isName cX5_isName 1 (some .boolean), Cond.methodLink RX5 81 yX5_readVoters, Cond.instanceMethod yX5_readVoters, Cond.selects RX5 yX5_readVoters yX5_readVoters, Cond.code yX5_readVoters cX5_readVoters 3 (some .int), Cond.methodLink RX5 94 yX5_takesSeats, Cond.instanceMethod yX5_takesSeats, Cond.selects RX5 yX5_takesSeats yX5_takesSeats, Cond.code yX5_takesSeats cX5_takesSeats 2 (some .boolean), Cond.methodLink RX5 97 yX5_takesRank, Cond.instanceMethod yX5_takesRank, Cond.selects RX5 yX5_takesRank yX5_takesRank, Cond.code yX5_takesRank cX5_takesRank 3 (some .boolean)]
def wsL_law_r12 : List Cond := [Cond.methodLink RX5 85 yX5_has, Cond.static yX5_has, Cond.code yX5_has cX5_has 2 (some .boolean), Cond.methodLink RL 27 yX4_lay, Cond.instanceMethod yX4_lay, Cond.selects RX4 yX4_lay yX4_lay, Cond.code yX4_lay cX4_lay 1 (some .int), Cond.instanceMethod yX0_copyFrom, Cond.selects RX0 yX0_copyFrom yX0_copyFrom, Cond.code yX0_copyFrom cX0_copyFrom 2 none, Cond.methodLink RX0 34 arraycopyName, Cond.native arraycopyName, Cond.static arraycopyName, Cond.initialized "java/lang/System", Cond.instanceMethod yX2_forget, Cond.selects RX2 yX2_forget yX2_forget, Cond.code yX2_forget cX2_forget 1 none, Cond.fieldLink RX2 18 "LoadCouncil$Past" "size" "I", Cond.methodLink RL 30 yX5_lay, Cond.instanceMethod yX5_lay, Cond.selects RX5 yX5_lay yX5_lay, Cond.code yX5_lay cX5_lay 2 (some .int), Cond.fieldLink RX5 106 "LoadCouncilModel" "changes" "I", Cond.methodLink RL 31 yX4_ballot]
def wsL_law_r13 : List Cond := [Cond.instanceMethod yX4_ballot, Cond.selects RX4 yX4_ballot yX4_ballot, Cond.code yX4_ballot cX4_ballot 3 (some .int), Cond.methodLink RX4 76 yX4_isVoters, Cond.methodLink RX4 79 yX4_isSet, Cond.instanceMethod yX4_isSet, Cond.selects RX4 yX4_isSet yX4_isSet, Cond.code yX4_isSet cX4_isSet 2 (some .boolean), Cond.instanceMethod yX2_keep, Cond.selects RX2 yX2_keep yX2_keep, Cond.code yX2_keep cX2_keep 2 none, Cond.fieldLink RX2 22 "LoadCouncil$Past" "top" "I", Cond.methodLink RX2 29 Lib.Math.min.name, Cond.static Lib.Math.min.name, Cond.initialized "java/lang/Math", Cond.code Lib.Math.min.name Lib.Math.min.code 2 (some .int), Cond.methodLink RL 35 yX5_ballot, Cond.instanceMethod yX5_ballot, Cond.selects RX5 yX5_ballot yX5_ballot, Cond.code yX5_ballot cX5_ballot 3 (some .int), Cond.methodLink RX5 112 yX5_isSet, Cond.instanceMethod yX5_isSet, Cond.selects RX5 yX5_isSet yX5_isSet, Cond.code yX5_isSet cX5_isSet 2 (some .boolean)]
def wsL_law_r14 : List Cond := [Cond.methodLink RX5 115 yX5_allVoters, Cond.instanceMethod yX5_allVoters, Cond.selects RX5 yX5_allVoters yX5_allVoters, Cond.code yX5_allVoters cX5_allVoters 3 (some .int), Cond.methodLink RX5 109 yX5_remembers, Cond.instanceMethod yX5_remembers, Cond.selects RX5 yX5_remembers yX5_remembers, Cond.code yX5_remembers cX5_remembers 2 none, Cond.methodLink RL 36 yX4_voters, Cond.instanceMethod yX4_voters, Cond.selects RX4 yX4_voters yX4_voters, Cond.code yX4_voters cX4_voters 4 (some .int), Cond.methodLink RX4 95 yX4_isBallot, Cond.instanceMethod yX4_isBallot, Cond.selects RX4 yX4_isBallot yX4_isBallot, Cond.code yX4_isBallot cX4_isBallot 2 (some .boolean), Cond.methodLink RL 39 yX5_voters, Cond.instanceMethod yX5_voters, Cond.selects RX5 yX5_voters yX5_voters, Cond.code yX5_voters cX5_voters 3 (some .int), Cond.methodLink RX5 118 yX5_isBallot, Cond.instanceMethod yX5_isBallot, Cond.selects RX5 yX5_isBallot yX5_isBallot, Cond.code yX5_isBallot cX5_isBallot 2 (some .boolean)]
def wsL_law_r15 : List Cond := [Cond.methodLink RX5 121 yX5_exchanges, Cond.instanceMethod yX5_exchanges, Cond.selects RX5 yX5_exchanges yX5_exchanges, Cond.code yX5_exchanges cX5_exchanges 4 (some .int), Cond.methodLink RL 40 yX4_approve, Cond.instanceMethod yX4_approve, Cond.selects RX4 yX4_approve yX4_approve, Cond.code yX4_approve cX4_approve 4 (some .int), Cond.methodLink RL 43 yX5_approve, Cond.instanceMethod yX5_approve, Cond.selects RX5 yX5_approve yX5_approve, Cond.code yX5_approve cX5_approve 3 (some .int), Cond.methodLink RL 44 yX4_seats, Cond.instanceMethod yX4_seats, Cond.selects RX4 yX4_seats yX4_seats, Cond.code yX4_seats cX4_seats 3 (some .int), Cond.methodLink RL 47 yX5_seats, Cond.instanceMethod yX5_seats, Cond.selects RX5 yX5_seats yX5_seats, Cond.code yX5_seats cX5_seats 2 (some .int), Cond.methodLink RL 48 yX4_withdraw, Cond.instanceMethod yX4_withdraw, Cond.selects RX4 yX4_withdraw yX4_withdraw, Cond.code yX4_withdraw cX4_withdraw 3 (some .int)]
def wsL_law_r16 : List Cond := [Cond.methodLink RX4 108 yX4_isCandidate, Cond.instanceMethod yX4_isCandidate, Cond.selects RX4 yX4_isCandidate yX4_isCandidate, Cond.code yX4_isCandidate cX4_isCandidate 2 (some .boolean), Cond.instanceMethod yX0_isWithdrawn, Cond.selects RX0 yX0_isWithdrawn yX0_isWithdrawn, Cond.code yX0_isWithdrawn cX0_isWithdrawn 2 (some .boolean), Cond.methodLink RX4 117 yJ6_bitCount_0f7a4, Cond.static yJ6_bitCount_0f7a4, Cond.initialized RJ6, Cond.code yJ6_bitCount_0f7a4 cJ6_bitCount_0f7a4 1 (some .int), Cond.constant RJ6 265 (1431655765), Cond.constant RJ6 266 (858993459), Cond.constant RJ6 267 (252645135), Cond.methodLink RL 51 yX5_withdraw, Cond.instanceMethod yX5_withdraw, Cond.selects RX5 yX5_withdraw yX5_withdraw, Cond.code yX5_withdraw cX5_withdraw 4 (some .int), Cond.methodLink RX5 125 yX5_isCandidate, Cond.instanceMethod yX5_isCandidate, Cond.selects RX5 yX5_isCandidate yX5_isCandidate, Cond.code yX5_isCandidate cX5_isCandidate 2 (some .boolean), Cond.methodLink RX5 128 yX5_ones, Cond.static yX5_ones]
def wsL_law_r17 : List Cond := [Cond.code yX5_ones cX5_ones 3 (some .int), Cond.methodLink RL 52 yX4_prefer, Cond.instanceMethod yX4_prefer, Cond.selects RX4 yX4_prefer yX4_prefer, Cond.code yX4_prefer cX4_prefer 3 (some .int), Cond.instanceMethod yX0_placeOf, Cond.selects RX0 yX0_placeOf yX0_placeOf, Cond.code yX0_placeOf cX0_placeOf 4 (some .int), Cond.instanceMethod yX0_bringToFront, Cond.selects RX0 yX0_bringToFront yX0_bringToFront, Cond.code yX0_bringToFront cX0_bringToFront 4 none, Cond.methodLink RL 55 yX5_prefer, Cond.instanceMethod yX5_prefer, Cond.selects RX5 yX5_prefer yX5_prefer, Cond.code yX5_prefer cX5_prefer 4 (some .int), Cond.methodLink RX5 131 yX5_placeOf, Cond.instanceMethod yX5_placeOf, Cond.selects RX5 yX5_placeOf yX5_placeOf, Cond.code yX5_placeOf cX5_placeOf 3 (some .int), Cond.methodLink RL 56 yX4_undo, Cond.instanceMethod yX4_undo, Cond.selects RX4 yX4_undo yX4_undo, Cond.code yX4_undo cX4_undo 1 (some .int), Cond.instanceMethod yX2_bringBack]
def wsL_law_r18 : List Cond := [Cond.selects RX2 yX2_bringBack yX2_bringBack, Cond.code yX2_bringBack cX2_bringBack 2 none, Cond.methodLink RL 59 yX5_undo, Cond.instanceMethod yX5_undo, Cond.selects RX5 yX5_undo yX5_undo, Cond.code yX5_undo cX5_undo 2 (some .int), Cond.methodLink RL 60 yX4_candidate, Cond.instanceMethod yX4_candidate, Cond.selects RX4 yX4_candidate yX4_candidate, Cond.code yX4_candidate cX4_candidate 3 (some .int), Cond.instanceMethod yX0_supportOf, Cond.selects RX0 yX0_supportOf yX0_supportOf, Cond.code yX0_supportOf cX0_supportOf 2 (some .int), Cond.methodLink RX4 139 yX4_lawsThatElect, Cond.instanceMethod yX4_lawsThatElect, Cond.selects RX4 yX4_lawsThatElect yX4_lawsThatElect, Cond.code yX4_lawsThatElect cX4_lawsThatElect 4 (some .int), Cond.instanceMethod yX1_hold, Cond.selects RX1 yX1_hold yX1_hold, Cond.code yX1_hold cX1_hold 5 (some .int), Cond.fieldLink RX1 45 "LoadCouncil$Election" "set" "I", Cond.methodLink RX1 31 yX1_begin, Cond.instanceMethod yX1_begin, Cond.selects RX1 yX1_begin yX1_begin]
def wsL_law_r19 : List Cond := [Cond.code yX1_begin cX1_begin 3 none, Cond.fieldLink RX1 52 "LoadCouncil$Election" "elected" "I", Cond.fieldLink RX1 55 "LoadCouncil$Election" "unit" "J", Cond.methodLink RX1 41 yX1_nextMember, Cond.instanceMethod yX1_nextMember, Cond.selects RX1 yX1_nextMember yX1_nextMember, Cond.code yX1_nextMember cX1_nextMember 6 (some .int), Cond.methodLink RX1 76 yX1_worthOf, Cond.instanceMethod yX1_worthOf, Cond.selects RX1 yX1_worthOf yX1_worthOf, Cond.code yX1_worthOf cX1_worthOf 7 (some .long), Cond.methodLink RX1 93 yX1_weightOf, Cond.instanceMethod yX1_weightOf, Cond.selects RX1 yX1_weightOf yX1_weightOf, Cond.code yX1_weightOf cX1_weightOf 3 (some .long), Cond.methodLink RX1 97 yJ6_bitCount_0f7a4, Cond.methodLink RX1 80 yX1_isAhead, Cond.instanceMethod yX1_isAhead, Cond.selects RX1 yX1_isAhead yX1_isAhead, Cond.code yX1_isAhead cX1_isAhead 4 (some .boolean), Cond.methodLink RX1 48 yX1_elect, Cond.instanceMethod yX1_elect, Cond.selects RX1 yX1_elect yX1_elect, Cond.code yX1_elect cX1_elect 4 none]
def wsL_law_r20 : List Cond := [Cond.constantLong RX1 102 (840), Cond.methodLink RX1 104 yX1_spreadLoad, Cond.instanceMethod yX1_spreadLoad, Cond.selects RX1 yX1_spreadLoad yX1_spreadLoad, Cond.code yX1_spreadLoad cX1_spreadLoad 4 none, Cond.methodLink RX4 199 yX4_hasBit, Cond.methodLink RL 63 yX5_candidate, Cond.instanceMethod yX5_candidate, Cond.selects RX5 yX5_candidate yX5_candidate, Cond.code yX5_candidate cX5_candidate 3 (some .int), Cond.methodLink RX5 182 yX5_aboutCandidate, Cond.instanceMethod yX5_aboutCandidate, Cond.selects RX5 yX5_aboutCandidate yX5_aboutCandidate, Cond.code yX5_aboutCandidate cX5_aboutCandidate 3 (some .int), Cond.methodLink RX5 169 yX5_lays, Cond.instanceMethod yX5_lays, Cond.selects RX5 yX5_lays yX5_lays, Cond.code yX5_lays cX5_lays 2 none, Cond.fieldLink RX5 134 "LoadCouncilModel" "ballots" "I", Cond.methodLink RX5 144 yX5_supportOf, Cond.instanceMethod yX5_supportOf, Cond.selects RX5 yX5_supportOf yX5_supportOf, Cond.code yX5_supportOf cX5_supportOf 4 (some .int), Cond.methodLink RX5 179 yX5_lawsOf]
def wsL_law_r21 : List Cond := [Cond.instanceMethod yX5_lawsOf, Cond.selects RX5 yX5_lawsOf yX5_lawsOf, Cond.code yX5_lawsOf cX5_lawsOf 4 (some .int), Cond.methodLink RX5 176 yX5_membersBy, Cond.instanceMethod yX5_membersBy, Cond.selects RX5 yX5_membersBy yX5_membersBy, Cond.code yX5_membersBy cX5_membersBy 2 (some .int), Cond.fieldLink RX5 141 "LoadCouncilModel" "members" "I", Cond.methodLink RX5 172 yX5_elects, Cond.instanceMethod yX5_elects, Cond.selects RX5 yX5_elects yX5_elects, Cond.code yX5_elects cX5_elects 4 none, Cond.fieldLink RX5 157 "LoadCouncilModel" "elected" "I", Cond.fieldLink RX5 137 "LoadCouncilModel" "below" "J", Cond.methodLink RX5 162 yX5_nextOf, Cond.instanceMethod yX5_nextOf, Cond.selects RX5 yX5_nextOf yX5_nextOf, Cond.code yX5_nextOf cX5_nextOf 8 (some .int), Cond.methodLink RX5 154 yX5_isAhead, Cond.instanceMethod yX5_isAhead, Cond.selects RX5 yX5_isAhead yX5_isAhead, Cond.code yX5_isAhead cX5_isAhead 4 (some .boolean), Cond.methodLink RX5 147 yX5_weightOf, Cond.instanceMethod yX5_weightOf]
def wsL_law_r22 : List Cond := [Cond.selects RX5 yX5_weightOf yX5_weightOf, Cond.code yX5_weightOf cX5_weightOf 5 (some .int), Cond.methodLink RX5 150 yX5_loadOf, Cond.instanceMethod yX5_loadOf, Cond.selects RX5 yX5_loadOf yX5_loadOf, Cond.code yX5_loadOf cX5_loadOf 5 (some .long), Cond.methodLink RX5 166 yX5_comesBy, Cond.instanceMethod yX5_comesBy, Cond.selects RX5 yX5_comesBy yX5_comesBy, Cond.code yX5_comesBy cX5_comesBy 7 none, Cond.constantLong RX5 160 (2520), Cond.methodLink RL 64 yX4_vote, Cond.instanceMethod yX4_vote, Cond.selects RX4 yX4_vote yX4_vote, Cond.code yX4_vote cX4_vote 3 (some .int), Cond.methodLink RL 67 yX5_vote, Cond.instanceMethod yX5_vote, Cond.selects RX5 yX5_vote yX5_vote, Cond.code yX5_vote cX5_vote 3 (some .int), Cond.methodLink RL 68 yX4_member, Cond.instanceMethod yX4_member, Cond.selects RX4 yX4_member yX4_member, Cond.code yX4_member cX4_member 3 (some .int), Cond.methodLink RX4 146 yX4_isLaw]
def wsL_law_r23 : List Cond := [Cond.static yX4_isLaw, Cond.code yX4_isLaw cX4_isLaw 1 (some .boolean), Cond.methodLink RL 71 yX5_member, Cond.instanceMethod yX5_member, Cond.selects RX5 yX5_member yX5_member, Cond.code yX5_member cX5_member 4 (some .int), Cond.methodLink RX5 185 yX5_isLaw, Cond.static yX5_isLaw, Cond.code yX5_isLaw cX5_isLaw 1 (some .boolean), Cond.methodLink RL 72 yX4_members, Cond.instanceMethod yX4_members, Cond.selects RX4 yX4_members yX4_members, Cond.code yX4_members cX4_members 2 (some .int), Cond.methodLink RL 75 yX5_members, Cond.instanceMethod yX5_members, Cond.selects RX5 yX5_members yX5_members, Cond.code yX5_members cX5_members 2 (some .int), Cond.methodLink RL 76 yX4_came, Cond.instanceMethod yX4_came, Cond.selects RX4 yX4_came yX4_came, Cond.code yX4_came cX4_came 4 (some .long), Cond.constantLong RX4 158 (-1), Cond.constantLong RX4 164 (-4), Cond.methodLink RX4 155 yX4_isPart]
def wsL_law_r24 : List Cond := [Cond.static yX4_isPart, Cond.code yX4_isPart cX4_isPart 1 (some .boolean), Cond.methodLink RX4 169 yX4_partOf, Cond.static yX4_partOf, Cond.code yX4_partOf cX4_partOf 7 (some .long), Cond.methodLink RX4 180 Lib.MathLoose.max_long.x, Cond.static Lib.MathLoose.max_long.x, Cond.code Lib.MathLoose.max_long.x Lib.MathLoose.max_long.code 4 (some .long), Cond.methodLink RX4 205 yX4_greatestDivisor, Cond.static yX4_greatestDivisor, Cond.code yX4_greatestDivisor cX4_greatestDivisor 11 (some .long), Cond.methodLink RL 80 yX5_came, Cond.instanceMethod yX5_came, Cond.selects RX5 yX5_came yX5_came, Cond.code yX5_came cX5_came 4 (some .long), Cond.constantLong RX5 191 (-1), Cond.constantLong RX5 197 (-4), Cond.methodLink RX5 188 yX5_isPart, Cond.static yX5_isPart, Cond.code yX5_isPart cX5_isPart 1 (some .boolean), Cond.methodLink RX5 193 yX5_partOf, Cond.static yX5_partOf, Cond.code yX5_partOf cX5_partOf 11 (some .long), Cond.methodLink RL 81 yX4_load]
def wsL_law_r25 : List Cond := [Cond.instanceMethod yX4_load, Cond.selects RX4 yX4_load yX4_load, Cond.code yX4_load cX4_load 3 (some .long), Cond.methodLink RL 85 yX5_load, Cond.instanceMethod yX5_load, Cond.selects RX5 yX5_load yX5_load, Cond.code yX5_load cX5_load 3 (some .long), Cond.methodLink RL 86 yX4_greatest, Cond.instanceMethod yX4_greatest, Cond.selects RX4 yX4_greatest yX4_greatest, Cond.code yX4_greatest cX4_greatest 5 (some .long), Cond.methodLink RL 90 yX5_greatest, Cond.instanceMethod yX5_greatest, Cond.selects RX5 yX5_greatest yX5_greatest, Cond.code yX5_greatest cX5_greatest 5 (some .long), Cond.methodLink RL 91 yX4_agrees, Cond.instanceMethod yX4_agrees, Cond.selects RX4 yX4_agrees yX4_agrees, Cond.code yX4_agrees cX4_agrees 3 (some .int), Cond.instanceMethod yX0_isOwed, Cond.selects RX0 yX0_isOwed yX0_isOwed, Cond.code yX0_isOwed cX0_isOwed 3 (some .boolean), Cond.methodLink RX0 48 yJ6_bitCount_0f7a4, Cond.methodLink RX0 53 yX0_allVoters]
def wsL_law_r26 : List Cond := [Cond.instanceMethod yX0_approvedByThoseWhoAgree, Cond.selects RX0 yX0_approvedByThoseWhoAgree yX0_approvedByThoseWhoAgree, Cond.code yX0_approvedByThoseWhoAgree cX0_approvedByThoseWhoAgree 4 (some .int), Cond.methodLink RL 94 yX5_agrees, Cond.instanceMethod yX5_agrees, Cond.selects RX5 yX5_agrees yX5_agrees, Cond.code yX5_agrees cX5_agrees 3 (some .int), Cond.methodLink RX5 199 yX5_agreed, Cond.instanceMethod yX5_agreed, Cond.selects RX5 yX5_agreed yX5_agreed, Cond.code yX5_agreed cX5_agreed 4 (some .int), Cond.methodLink RX5 202 yX5_isOwed, Cond.instanceMethod yX5_isOwed, Cond.selects RX5 yX5_isOwed yX5_isOwed, Cond.code yX5_isOwed cX5_isOwed 3 (some .boolean), Cond.methodLink RX5 205 yX5_unionOf, Cond.instanceMethod yX5_unionOf, Cond.selects RX5 yX5_unionOf yX5_unionOf, Cond.code yX5_unionOf cX5_unionOf 4 (some .int), Cond.methodLink RL 95 yX4_shorts, Cond.instanceMethod yX4_shorts, Cond.selects RX4 yX4_shorts yX4_shorts, Cond.code yX4_shorts cX4_shorts 6 (some .int), Cond.instanceMethod yX0_isShort]
def wsL_law_r27 : List Cond := [Cond.selects RX0 yX0_isShort yX0_isShort, Cond.code yX0_isShort cX0_isShort 3 (some .boolean), Cond.methodLink RX0 57 yX0_isOwed, Cond.methodLink RX0 61 yX0_approvedByThoseWhoAgree, Cond.methodLink RL 98 yX5_shorts, Cond.instanceMethod yX5_shorts, Cond.selects RX5 yX5_shorts yX5_shorts, Cond.code yX5_shorts cX5_shorts 7 (some .int), Cond.methodLink RL 99 yX4_joins, Cond.instanceMethod yX4_joins, Cond.selects RX4 yX4_joins yX4_joins, Cond.code yX4_joins cX4_joins 4 (some .int), Cond.methodLink RL 102 yX5_joins, Cond.instanceMethod yX5_joins, Cond.selects RX5 yX5_joins yX5_joins, Cond.code yX5_joins cX5_joins 5 (some .int), Cond.methodLink RL 103 yX4_matters, Cond.instanceMethod yX4_matters, Cond.selects RX4 yX4_matters yX4_matters, Cond.code yX4_matters cX4_matters 5 (some .int), Cond.methodLink RL 106 yX5_matters, Cond.instanceMethod yX5_matters, Cond.selects RX5 yX5_matters yX5_matters, Cond.code yX5_matters cX5_matters 5 (some .int)]
def wsL_law_r28 : List Cond := [Cond.methodLink RL 107 yX4_rather, Cond.instanceMethod yX4_rather, Cond.selects RX4 yX4_rather yX4_rather, Cond.code yX4_rather cX4_rather 9 (some .int), Cond.methodLink RL 111 yX5_rather, Cond.instanceMethod yX5_rather, Cond.selects RX5 yX5_rather yX5_rather, Cond.code yX5_rather cX5_rather 9 (some .int), Cond.methodLink RL 112 yX4_decided, Cond.instanceMethod yX4_decided, Cond.selects RX4 yX4_decided yX4_decided, Cond.code yX4_decided cX4_decided 3 (some .int), Cond.instanceMethod yX0_turnRankRound, Cond.selects RX0 yX0_turnRankRound yX0_turnRankRound, Cond.code yX0_turnRankRound cX0_turnRankRound 3 none, Cond.methodLink RL 115 yX5_decided, Cond.instanceMethod yX5_decided, Cond.selects RX5 yX5_decided yX5_decided, Cond.code yX5_decided cX5_decided 5 (some .int), Cond.methodLink RL 116 yX4_both, Cond.instanceMethod yX4_both, Cond.selects RX4 yX4_both yX4_both, Cond.code yX4_both cX4_both 4 (some .int), Cond.methodLink RL 119 yX5_both]
def wsL_law_r29 : List Cond := [Cond.instanceMethod yX5_both, Cond.selects RX5 yX5_both yX5_both, Cond.code yX5_both cX5_both 4 (some .int), Cond.methodLink RL 120 yX4_count, Cond.instanceMethod yX4_count, Cond.selects RX4 yX4_count yX4_count, Cond.code yX4_count cX4_count 2 (some .int), Cond.methodLink RL 123 yX5_count, Cond.instanceMethod yX5_count, Cond.selects RX5 yX5_count yX5_count, Cond.code yX5_count cX5_count 2 (some .int)]
def wsL_law : List Cond := (wsL_law_r1 ++ (wsL_law_r2 ++ (wsL_law_r3 ++ (wsL_law_r4 ++ (wsL_law_r5 ++ (wsL_law_r6 ++ (wsL_law_r7 ++ (wsL_law_r8 ++ (wsL_law_r9 ++ (wsL_law_r10 ++ (wsL_law_r11 ++ (wsL_law_r12 ++ (wsL_law_r13 ++ (wsL_law_r14 ++ (wsL_law_r15 ++ (wsL_law_r16 ++ (wsL_law_r17 ++ (wsL_law_r18 ++ (wsL_law_r19 ++ (wsL_law_r20 ++ (wsL_law_r21 ++ (wsL_law_r22 ++ (wsL_law_r23 ++ (wsL_law_r24 ++ (wsL_law_r25 ++ (wsL_law_r26 ++ (wsL_law_r27 ++ (wsL_law_r28 ++ wsL_law_r29)))))))))))))))))))))))))))) ++ wsX40 ++ wsX50 ++ wsX30 ++ wsX00 ++ wsX20 ++ wsX10 ++ ([] : List Cond)
set_option maxRecDepth 20000 in
theorem wsL_law_in : ∀ w ∈ wsL_law, w ∈ lw_tbl := fun w h => (goodIn_p wsL_law [91, 94, 99, 114, 159, 179, 220, 224, 230, 234, 237, 240, 245, 248, 251, 254, 258, 268, 272, 276, 280, 284, 288, 292, 296, 299, 303, 307, 311, 315, 319, 323, 326, 330, 596, 601, 351, 663, 666, 355, 670, 359, 674, 678, 682, 686, 690, 694, 698, 702, 706, 710, 714, 718, 722, 725, 363, 367, 374, 729, 378, 383, 388, 392, 733, 737, 741, 745, 397, 401, 749, 753, 757, 405, 761, 409, 765, 413, 417, 421, 425, 769, 773, 776, 432, 436, 440, 780, 784, 444, 448, 788, 452, 456, 460, 464, 468, 473, 478, 482, 487, 491, 496, 792, 796, 800, 804, 808, 812, 816, 820, 824, 828, 832, 836, 501, 841, 505, 508, 845, 848, 512, 852, 516, 519, 524, 530, 527, 856, 859, 863, 534, 868, 538, 872, 542, 547, 553, 876, 880, 884, 888, 557, 561, 892, 567, 896, 571, 900, 575, 904, 579, 583, 908, 587, 912, 591, 916] (by decide +kernel) (by decide +kernel) w h).1
theorem inlX0 : ∀ w ∈ wsX00, w ∈ wsL_law := fun _ h => List.mem_append_left _ (List.mem_append_left _ (List.mem_append_left _ (List.mem_append_right _ h)))
theorem inX0 : ∀ w ∈ wsX00, w ∈ lw_tbl := fun w h => wsL_law_in w (inlX0 w h)
theorem inlX1 : ∀ w ∈ wsX10, w ∈ wsL_law := fun _ h => List.mem_append_left _ (List.mem_append_right _ h)
theorem inX1 : ∀ w ∈ wsX10, w ∈ lw_tbl := fun w h => wsL_law_in w (inlX1 w h)
theorem inlX2 : ∀ w ∈ wsX20, w ∈ wsL_law := fun _ h => List.mem_append_left _ (List.mem_append_left _ (List.mem_append_right _ h))
theorem inX2 : ∀ w ∈ wsX20, w ∈ lw_tbl := fun w h => wsL_law_in w (inlX2 w h)
theorem inlX3 : ∀ w ∈ wsX30, w ∈ wsL_law := fun _ h => List.mem_append_left _ (List.mem_append_left _ (List.mem_append_left _ (List.mem_append_left _ (List.mem_append_right _ h))))
theorem inX3 : ∀ w ∈ wsX30, w ∈ lw_tbl := fun w h => wsL_law_in w (inlX3 w h)
theorem inlX4 : ∀ w ∈ wsX40, w ∈ wsL_law := fun _ h => List.mem_append_left _ (List.mem_append_left _ (List.mem_append_left _ (List.mem_append_left _ (List.mem_append_left _ (List.mem_append_left _ (List.mem_append_right _ h))))))
theorem inX4 : ∀ w ∈ wsX40, w ∈ lw_tbl := fun w h => wsL_law_in w (inlX4 w h)
theorem inlX5 : ∀ w ∈ wsX50, w ∈ wsL_law := fun _ h => List.mem_append_left _ (List.mem_append_left _ (List.mem_append_left _ (List.mem_append_left _ (List.mem_append_left _ (List.mem_append_right _ h)))))
theorem inX5 : ∀ w ∈ wsX50, w ∈ lw_tbl := fun w h => wsL_law_in w (inlX5 w h)
theorem inJ6 : ∀ w ∈ wsJ60, w ∈ lw_tbl := by decide +kernel
theorem inJ9 : ∀ w ∈ wsJ90, w ∈ lw_tbl := by decide +kernel
theorem inJ0 : ∀ w ∈ wsJ00, w ∈ lw_tbl := by decide +kernel
theorem inJ1 : ∀ w ∈ wsJ10, w ∈ lw_tbl := by decide +kernel
theorem inJ2 : ∀ w ∈ wsJ20, w ∈ lw_tbl := by decide +kernel
theorem inJ10 : ∀ w ∈ wsJ100, w ∈ lw_tbl := by decide +kernel
theorem inJ3 : ∀ w ∈ wsJ30, w ∈ lw_tbl := by decide +kernel
set_option maxRecDepth 20000 in
theorem ggL_law_X4_init : GoodIn wsL_law wsX4_init := goodIn_r _ [8, 9, 10, 11, 12, 13, 14, 15, 16, 17, 18, 19, 20, 21, 22, 23, 24, 25, 26, 27, 28, 29, 30, 31, 32, 33, 34, 35, 36, 37, 38, 39, 40, 41, 42, 43, 44, 45, 46, 47, 48, 49, 50, 51, 52, 53, 54, 55, 56, 57, 58, 59, 60, 61, 62, 63, 64, 65, 66, 67, 68, 69, 70, 71, 72, 73, 74, 75, 76, 77, 78, 79, 80, 81, 82, 83, 84, 85, 86, 87, 88, 89, 90, 91, 92, 93, 94, 95, 96, 97, 98, 99, 100, 101, 102, 103, 104, 105, 106, 107, 108, 109, 110, 111, 112, 113, 114, 115, 116, 117, 118, 119, 120, 121, 122, 123, 124, 125, 126, 127, 128, 129, 130, 131, 132, 133, 134, 135, 136, 137, 138, 2, 139, 140, 141, 142, 143, 144, 145, 146, 147, 148, 149, 150, 151, 152, 153, 154, 155, 156, 157, 158, 159, 160, 161, 162, 163, 164, 165, 166, 707, 708, 683, 684, 685, 686, 687, 709, 710, 711, 712, 713, 714, 715, 716, 717, 718, 719, 720, 721, 722, 723, 724, 725, 726, 727] (by decide +kernel) (by decide +kernel)
set_option maxRecDepth 20000 in
theorem gL_law_X4_init : GoodIn wsL_law (wsX4_init) := ggL_law_X4_init
set_option maxRecDepth 20000 in
theorem ggL_law_X5_init : GoodIn wsL_law wsX5_init := goodIn_r _ [169, 170, 10, 11, 32, 171, 172, 173, 174, 175, 176, 177, 49, 178, 179, 180, 181, 182, 183, 184, 5, 185, 688, 689, 690, 691, 692, 693, 694, 695, 696, 697, 698, 699, 700, 701, 702, 703, 704, 705, 706] (by decide +kernel) (by decide +kernel)
set_option maxRecDepth 20000 in
theorem gL_law_X5_init : GoodIn wsL_law (wsX5_init) := ggL_law_X5_init
set_option maxRecDepth 20000 in
theorem ggL_law_X4_write : GoodIn wsL_law wsX4_write := goodIn_r _ [189, 15, 104, 14, 105, 106, 107, 33, 683, 684, 685, 686, 687, 707, 708] (by decide +kernel) (by decide +kernel)
set_option maxRecDepth 20000 in
theorem gL_law_X4_write : GoodIn wsL_law (wsV RL 13 RX4 yX4_write wsX4_write) := goodIn_app (goodIn_of _ (by decide +kernel)) ggL_law_X4_write
set_option maxRecDepth 20000 in
theorem ggL_law_X5_write : GoodIn wsL_law wsX5_write := goodIn_r _ [193, 194, 174, 195, 196, 5, 197, 688, 689, 690, 691, 692, 693, 694, 695, 696, 697, 698, 699, 700, 701, 702, 703, 704, 705, 706] (by decide +kernel) (by decide +kernel)
set_option maxRecDepth 20000 in
theorem gL_law_X5_write : GoodIn wsL_law (wsV RL 17 RX5 yX5_write wsX5_write) := goodIn_app (goodIn_of _ (by decide +kernel)) ggL_law_X5_write
set_option maxRecDepth 20000 in
theorem ggL_law_X4_wipe : GoodIn wsL_law wsX4_wipe := goodIn_r _ [201, 15, 164, 14, 165, 166, 107, 683, 684, 685, 686, 687, 707, 708] (by decide +kernel) (by decide +kernel)
set_option maxRecDepth 20000 in
theorem gL_law_X4_wipe : GoodIn wsL_law (wsV RL 18 RX4 yX4_wipe wsX4_wipe) := goodIn_app (goodIn_of _ (by decide +kernel)) ggL_law_X4_wipe
set_option maxRecDepth 20000 in
theorem ggL_law_X5_wipe : GoodIn wsL_law wsX5_wipe := goodIn_r _ [205, 194, 688, 689, 690, 691, 692, 693, 694, 695, 696, 697, 698, 699, 700, 701, 702, 703, 704, 705, 706] (by decide +kernel) (by decide +kernel)
set_option maxRecDepth 20000 in
theorem gL_law_X5_wipe : GoodIn wsL_law (wsV RL 22 RX5 yX5_wipe wsX5_wipe) := goodIn_app (goodIn_of _ (by decide +kernel)) ggL_law_X5_wipe
set_option maxRecDepth 20000 in
theorem ggL_law_X4_fault : GoodIn wsL_law wsX4_fault := goodIn_r _ [209, 15, 20, 108, 14, 109, 110, 107, 33, 111, 18, 112, 113, 114, 115, 116, 117, 39, 118, 119, 120, 121, 122, 123, 124, 125, 126, 127, 128, 129, 130, 131, 132, 133, 134, 135, 136, 137, 138, 2, 139, 140, 141, 142, 143, 144, 145, 146, 37, 147, 148, 149, 150, 38, 151, 152, 153, 154, 155, 156, 157, 158, 159, 160, 161, 162, 163, 683, 684, 685, 686, 687, 707, 708, 709, 710, 711, 712, 713, 714, 715] (by decide +kernel) (by decide +kernel)
set_option maxRecDepth 20000 in
theorem gL_law_X4_fault : GoodIn wsL_law (wsV RL 23 RX4 yX4_fault wsX4_fault) := goodIn_app (goodIn_of _ (by decide +kernel)) ggL_law_X4_fault
set_option maxRecDepth 20000 in
theorem ggL_law_X5_fault : GoodIn wsL_law wsX5_fault := goodIn_r _ [213, 214, 215, 216, 5, 217, 172, 218, 194, 219, 220, 221, 222, 223, 224, 225, 226, 174, 227, 228, 229, 230, 231, 232, 233, 234, 235, 195, 196, 197, 236, 237, 238, 239, 240, 241, 242, 243, 244, 245, 246, 247, 248, 249, 250, 251, 252, 253, 254, 255, 256, 257, 258, 259, 260, 261, 262, 263, 264, 265, 266, 688, 689, 690, 691, 692, 693, 694, 695, 696, 697, 698, 699, 700, 701, 702, 703, 704, 705, 706] (by decide +kernel) (by decide +kernel)
set_option maxRecDepth 20000 in
theorem gL_law_X5_fault : GoodIn wsL_law (wsV RL 26 RX5 yX5_fault wsX5_fault) := goodIn_app (goodIn_of _ (by decide +kernel)) ggL_law_X5_fault
set_option maxRecDepth 20000 in
theorem ggL_law_X4_lay : GoodIn wsL_law wsX4_lay := goodIn_r _ [270, 15, 20, 19, 24, 108, 14, 109, 110, 107, 33, 111, 18, 112, 113, 114, 115, 116, 117, 39, 118, 119, 120, 121, 122, 123, 124, 125, 126, 127, 128, 129, 130, 131, 132, 133, 134, 135, 136, 137, 138, 2, 139, 140, 141, 142, 143, 144, 145, 146, 37, 147, 148, 149, 150, 38, 151, 152, 153, 154, 155, 156, 157, 158, 159, 160, 161, 162, 163, 271, 272, 273, 274, 275, 276, 277, 278, 23, 279, 280, 281, 683, 684, 685, 686, 687, 709, 710, 711, 712, 713, 714, 715, 707, 708, 716, 717, 718] (by decide +kernel) (by decide +kernel)
set_option maxRecDepth 20000 in
theorem gL_law_X4_lay : GoodIn wsL_law (wsV RL 27 RX4 yX4_lay wsX4_lay) := goodIn_app (goodIn_of _ (by decide +kernel)) ggL_law_X4_lay
set_option maxRecDepth 20000 in
theorem ggL_law_X5_lay : GoodIn wsL_law wsX5_lay := goodIn_r _ [285, 172, 171, 286, 214, 215, 216, 5, 217, 218, 194, 219, 220, 221, 222, 223, 224, 225, 226, 174, 227, 228, 229, 230, 231, 232, 233, 234, 235, 195, 196, 197, 236, 237, 238, 239, 240, 241, 242, 243, 244, 245, 246, 247, 248, 249, 250, 251, 252, 253, 254, 255, 256, 257, 258, 259, 260, 261, 262, 263, 264, 265, 266, 688, 689, 690, 691, 692, 693, 694, 695, 696, 697, 698, 699, 700, 701, 702, 703, 704, 705, 706] (by decide +kernel) (by decide +kernel)
set_option maxRecDepth 20000 in
theorem gL_law_X5_lay : GoodIn wsL_law (wsV RL 30 RX5 yX5_lay wsX5_lay) := goodIn_app (goodIn_of _ (by decide +kernel)) ggL_law_X5_lay
set_option maxRecDepth 20000 in
theorem ggL_law_X4_ballot : GoodIn wsL_law wsX4_ballot := goodIn_r _ [290, 19, 24, 291, 138, 2, 139, 292, 293, 294, 295, 140, 18, 141, 142, 143, 144, 145, 146, 115, 37, 147, 148, 149, 150, 38, 296, 23, 297, 298, 44, 299, 281, 300, 301, 302, 303, 271, 272, 273, 114, 116, 117, 274, 275, 276, 277, 39, 151, 152, 153, 683, 684, 685, 686, 687, 709, 710, 711, 712, 713, 714, 715, 716, 717, 718] (by decide +kernel) (by decide +kernel)
set_option maxRecDepth 20000 in
theorem gL_law_X4_ballot : GoodIn wsL_law (wsV RL 31 RX4 yX4_ballot wsX4_ballot) := goodIn_app (goodIn_of _ (by decide +kernel)) ggL_law_X4_ballot
set_option maxRecDepth 20000 in
theorem ggL_law_X5_ballot : GoodIn wsL_law wsX5_ballot := goodIn_r _ [307, 171, 195, 196, 5, 197, 308, 309, 310, 311, 312, 313, 314, 315, 316, 317, 318, 319, 286, 173, 182, 183, 184, 185, 688, 689, 690, 691, 692, 693, 694, 695, 696, 697, 698, 699, 700, 701, 702, 703, 704, 705, 706] (by decide +kernel) (by decide +kernel)
set_option maxRecDepth 20000 in
theorem gL_law_X5_ballot : GoodIn wsL_law (wsV RL 35 RX5 yX5_ballot wsX5_ballot) := goodIn_app (goodIn_of _ (by decide +kernel)) ggL_law_X5_ballot
set_option maxRecDepth 20000 in
theorem ggL_law_X4_voters : GoodIn wsL_law wsX4_voters := goodIn_r _ [323, 19, 24, 324, 325, 326, 2, 327, 291, 138, 139, 140, 18, 141, 142, 143, 144, 145, 146, 115, 37, 147, 148, 149, 150, 38, 296, 23, 297, 298, 44, 299, 281, 300, 301, 302, 303, 271, 272, 273, 114, 116, 117, 274, 275, 276, 277, 39, 683, 684, 685, 686, 687, 709, 710, 711, 712, 713, 714, 715, 716, 717, 718] (by decide +kernel) (by decide +kernel)
set_option maxRecDepth 20000 in
theorem gL_law_X4_voters : GoodIn wsL_law (wsV RL 36 RX4 yX4_voters wsX4_voters) := goodIn_app (goodIn_of _ (by decide +kernel)) ggL_law_X4_voters
set_option maxRecDepth 20000 in
theorem ggL_law_X5_voters : GoodIn wsL_law wsX5_voters := goodIn_r _ [331, 171, 332, 333, 334, 5, 335, 195, 196, 197, 312, 313, 314, 315, 336, 337, 338, 339, 316, 317, 318, 319, 286, 173, 688, 689, 690, 691, 692, 693, 694, 695, 696, 697, 698, 699, 700, 701, 702, 703, 704, 705, 706] (by decide +kernel) (by decide +kernel)
set_option maxRecDepth 20000 in
theorem gL_law_X5_voters : GoodIn wsL_law (wsV RL 39 RX5 yX5_voters wsX5_voters) := goodIn_app (goodIn_of _ (by decide +kernel)) ggL_law_X5_voters
set_option maxRecDepth 20000 in
theorem ggL_law_X4_approve : GoodIn wsL_law wsX4_approve := goodIn_r _ [343, 19, 24, 324, 325, 326, 2, 327, 292, 293, 294, 295, 296, 23, 297, 298, 44, 299, 281, 300, 301, 302, 303, 271, 18, 272, 273, 114, 115, 116, 117, 37, 274, 275, 276, 277, 38, 39, 683, 684, 685, 686, 687, 709, 710, 711, 712, 713, 714, 715, 716, 717, 718] (by decide +kernel) (by decide +kernel)
set_option maxRecDepth 20000 in
theorem gL_law_X4_approve : GoodIn wsL_law (wsV RL 40 RX4 yX4_approve wsX4_approve) := goodIn_app (goodIn_of _ (by decide +kernel)) ggL_law_X4_approve
set_option maxRecDepth 20000 in
theorem ggL_law_X5_approve : GoodIn wsL_law wsX5_approve := goodIn_r _ [347, 171, 332, 333, 334, 5, 335, 195, 196, 197, 308, 309, 310, 311, 336, 337, 338, 339, 316, 317, 318, 319, 286, 173, 688, 689, 690, 691, 692, 693, 694, 695, 696, 697, 698, 699, 700, 701, 702, 703, 704, 705, 706] (by decide +kernel) (by decide +kernel)
set_option maxRecDepth 20000 in
theorem gL_law_X5_approve : GoodIn wsL_law (wsV RL 43 RX5 yX5_approve wsX5_approve) := goodIn_app (goodIn_of _ (by decide +kernel)) ggL_law_X5_approve
set_option maxRecDepth 20000 in
theorem ggL_law_X4_seats : GoodIn wsL_law wsX4_seats := goodIn_r _ [351, 19, 24, 296, 23, 297, 298, 44, 299, 281, 300, 301, 302, 303, 271, 18, 272, 273, 114, 115, 116, 117, 37, 274, 275, 276, 277, 38, 39, 683, 684, 685, 686, 687, 709, 710, 711, 712, 713, 714, 715, 716, 717, 718] (by decide +kernel) (by decide +kernel)
set_option maxRecDepth 20000 in
theorem gL_law_X4_seats : GoodIn wsL_law (wsV RL 44 RX4 yX4_seats wsX4_seats) := goodIn_app (goodIn_of _ (by decide +kernel)) ggL_law_X4_seats
set_option maxRecDepth 20000 in
theorem ggL_law_X5_seats : GoodIn wsL_law wsX5_seats := goodIn_r _ [355, 171, 195, 196, 5, 197, 336, 337, 338, 339, 316, 317, 318, 319, 286, 173, 688, 689, 690, 691, 692, 693, 694, 695, 696, 697, 698, 699, 700, 701, 702, 703, 704, 705, 706] (by decide +kernel) (by decide +kernel)
set_option maxRecDepth 20000 in
theorem gL_law_X5_seats : GoodIn wsL_law (wsV RL 47 RX5 yX5_seats wsX5_seats) := goodIn_app (goodIn_of _ (by decide +kernel)) ggL_law_X5_seats
set_option maxRecDepth 20000 in
theorem ggL_law_X4_withdraw : GoodIn wsL_law wsX4_withdraw := goodIn_r _ [359, 19, 24, 360, 361, 362, 2, 363, 364, 18, 365, 366, 117, 162, 163, 296, 23, 297, 298, 44, 299, 281, 300, 301, 302, 303, 271, 272, 273, 114, 115, 116, 37, 274, 275, 276, 277, 38, 39, 367, 368, 369, 370, 371, 372, 373, 683, 684, 685, 686, 687, 709, 710, 711, 712, 713, 714, 715, 716, 717, 718] (by decide +kernel) (by decide +kernel)
set_option maxRecDepth 20000 in
theorem gL_law_X4_withdraw : GoodIn wsL_law (wsV RL 48 RX4 yX4_withdraw wsX4_withdraw) := goodIn_app (goodIn_of _ (by decide +kernel)) ggL_law_X4_withdraw
set_option maxRecDepth 20000 in
theorem ggL_law_X5_withdraw : GoodIn wsL_law wsX5_withdraw := goodIn_r _ [377, 171, 378, 379, 380, 5, 381, 195, 196, 197, 264, 265, 266, 336, 337, 338, 339, 316, 317, 318, 319, 286, 173, 382, 383, 384, 688, 689, 690, 691, 692, 693, 694, 695, 696, 697, 698, 699, 700, 701, 702, 703, 704, 705, 706] (by decide +kernel) (by decide +kernel)
set_option maxRecDepth 20000 in
theorem gL_law_X5_withdraw : GoodIn wsL_law (wsV RL 51 RX5 yX5_withdraw wsX5_withdraw) := goodIn_app (goodIn_of _ (by decide +kernel)) ggL_law_X5_withdraw
set_option maxRecDepth 20000 in
theorem ggL_law_X4_prefer : GoodIn wsL_law wsX4_prefer := goodIn_r _ [388, 19, 24, 360, 361, 362, 2, 363, 389, 18, 390, 391, 114, 39, 296, 23, 297, 298, 44, 299, 281, 300, 301, 302, 303, 271, 272, 273, 115, 116, 117, 37, 274, 275, 276, 277, 38, 392, 393, 394, 683, 684, 685, 686, 687, 709, 710, 711, 712, 713, 714, 715, 716, 717, 718] (by decide +kernel) (by decide +kernel)
set_option maxRecDepth 20000 in
theorem gL_law_X4_prefer : GoodIn wsL_law (wsV RL 52 RX4 yX4_prefer wsX4_prefer) := goodIn_app (goodIn_of _ (by decide +kernel)) ggL_law_X4_prefer
set_option maxRecDepth 20000 in
theorem ggL_law_X5_prefer : GoodIn wsL_law wsX5_prefer := goodIn_r _ [398, 171, 378, 379, 380, 5, 381, 195, 196, 197, 399, 400, 401, 402, 316, 317, 318, 319, 286, 173, 688, 689, 690, 691, 692, 693, 694, 695, 696, 697, 698, 699, 700, 701, 702, 703, 704, 705, 706] (by decide +kernel) (by decide +kernel)
set_option maxRecDepth 20000 in
theorem gL_law_X5_prefer : GoodIn wsL_law (wsV RL 55 RX5 yX5_prefer wsX5_prefer) := goodIn_app (goodIn_of _ (by decide +kernel)) ggL_law_X5_prefer
set_option maxRecDepth 20000 in
theorem ggL_law_X4_undo : GoodIn wsL_law wsX4_undo := goodIn_r _ [406, 24, 19, 407, 23, 408, 409, 299, 281, 44, 271, 18, 272, 273, 114, 115, 116, 117, 37, 274, 275, 276, 277, 38, 39, 683, 684, 685, 686, 687, 716, 717, 718, 709, 710, 711, 712, 713, 714, 715] (by decide +kernel) (by decide +kernel)
set_option maxRecDepth 20000 in
theorem gL_law_X4_undo : GoodIn wsL_law (wsV RL 56 RX4 yX4_undo wsX4_undo) := goodIn_app (goodIn_of _ (by decide +kernel)) ggL_law_X4_undo
set_option maxRecDepth 20000 in
theorem ggL_law_X5_undo : GoodIn wsL_law wsX5_undo := goodIn_r _ [413, 286, 171, 173, 688, 689, 690, 691, 692, 693, 694, 695, 696, 697, 698, 699, 700, 701, 702, 703, 704, 705, 706] (by decide +kernel) (by decide +kernel)
set_option maxRecDepth 20000 in
theorem gL_law_X5_undo : GoodIn wsL_law (wsV RL 59 RX5 yX5_undo wsX5_undo) := goodIn_app (goodIn_of _ (by decide +kernel)) ggL_law_X5_undo
set_option maxRecDepth 20000 in
theorem ggL_law_X4_candidate : GoodIn wsL_law wsX4_candidate := goodIn_r _ [417, 19, 360, 361, 362, 2, 363, 418, 18, 419, 420, 143, 144, 145, 146, 115, 37, 147, 148, 149, 150, 38, 389, 390, 391, 114, 39, 364, 365, 366, 117, 162, 163, 421, 422, 423, 424, 28, 425, 27, 426, 427, 428, 429, 430, 431, 432, 433, 434, 54, 52, 435, 436, 437, 438, 53, 439, 440, 441, 442, 443, 444, 445, 446, 447, 368, 369, 370, 371, 372, 373, 448, 449, 450, 451, 452, 453, 454, 455, 48, 50, 51, 456, 457, 458, 459, 460, 461, 683, 684, 685, 686, 687, 709, 710, 711, 712, 713, 714, 715, 719, 720, 721, 722, 723, 724, 725, 726, 727] (by decide +kernel) (by decide +kernel)
set_option maxRecDepth 20000 in
theorem gL_law_X4_candidate : GoodIn wsL_law (wsV RL 60 RX4 yX4_candidate wsX4_candidate) := goodIn_app (goodIn_of _ (by decide +kernel)) ggL_law_X4_candidate
set_option maxRecDepth 20000 in
theorem ggL_law_X5_candidate : GoodIn wsL_law wsX5_candidate := goodIn_r _ [465, 378, 379, 380, 5, 381, 171, 195, 196, 197, 466, 467, 468, 469, 470, 471, 472, 473, 474, 175, 176, 177, 475, 476, 477, 478, 264, 265, 266, 399, 400, 401, 402, 479, 480, 481, 482, 483, 484, 485, 486, 487, 488, 489, 490, 491, 492, 493, 178, 180, 181, 179, 494, 495, 496, 497, 498, 499, 500, 501, 502, 503, 504, 505, 382, 383, 384, 506, 507, 508, 509, 510, 511, 512, 513, 514, 688, 689, 690, 691, 692, 693, 694, 695, 696, 697, 698, 699, 700, 701, 702, 703, 704, 705, 706] (by decide +kernel) (by decide +kernel)
set_option maxRecDepth 20000 in
theorem gL_law_X5_candidate : GoodIn wsL_law (wsV RL 63 RX5 yX5_candidate wsX5_candidate) := goodIn_app (goodIn_of _ (by decide +kernel)) ggL_law_X5_candidate
set_option maxRecDepth 20000 in
theorem ggL_law_X4_vote : GoodIn wsL_law wsX4_vote := goodIn_r _ [518, 19, 28, 324, 325, 326, 2, 327, 425, 27, 426, 427, 428, 429, 430, 431, 432, 433, 434, 54, 52, 418, 18, 419, 420, 143, 144, 145, 146, 115, 37, 147, 148, 149, 150, 38, 435, 436, 437, 438, 53, 162, 163, 439, 440, 441, 442, 443, 444, 445, 446, 447, 368, 369, 370, 371, 372, 373, 448, 449, 450, 451, 452, 453, 454, 455, 48, 50, 51, 456, 457, 458, 459, 460, 367, 683, 684, 685, 686, 687, 709, 710, 711, 712, 713, 714, 715, 719, 720, 721, 722, 723, 724, 725, 726, 727] (by decide +kernel) (by decide +kernel)
set_option maxRecDepth 20000 in
theorem gL_law_X4_vote : GoodIn wsL_law (wsV RL 64 RX4 yX4_vote wsX4_vote) := goodIn_app (goodIn_of _ (by decide +kernel)) ggL_law_X4_vote
set_option maxRecDepth 20000 in
theorem ggL_law_X5_vote : GoodIn wsL_law wsX5_vote := goodIn_r _ [522, 171, 332, 333, 334, 5, 335, 195, 196, 197, 483, 484, 485, 486, 487, 470, 471, 472, 473, 474, 175, 176, 177, 488, 489, 490, 491, 492, 493, 178, 180, 181, 179, 494, 495, 496, 497, 264, 265, 266, 475, 476, 477, 478, 498, 499, 500, 501, 502, 503, 504, 505, 382, 383, 384, 506, 507, 508, 509, 510, 511, 512, 513, 514, 688, 689, 690, 691, 692, 693, 694, 695, 696, 697, 698, 699, 700, 701, 702, 703, 704, 705, 706] (by decide +kernel) (by decide +kernel)
set_option maxRecDepth 20000 in
theorem gL_law_X5_vote : GoodIn wsL_law (wsV RL 67 RX5 yX5_vote wsX5_vote) := goodIn_app (goodIn_of _ (by decide +kernel)) ggL_law_X5_vote
set_option maxRecDepth 20000 in
theorem ggL_law_X4_member : GoodIn wsL_law wsX4_member := goodIn_r _ [526, 28, 19, 527, 528, 2, 529, 425, 27, 426, 427, 428, 429, 430, 431, 432, 433, 434, 54, 52, 418, 18, 419, 420, 143, 144, 145, 146, 115, 37, 147, 148, 149, 150, 38, 435, 436, 437, 438, 53, 162, 163, 439, 440, 441, 442, 443, 444, 445, 446, 447, 368, 369, 370, 371, 372, 373, 448, 449, 450, 451, 452, 453, 454, 455, 48, 50, 51, 456, 457, 458, 459, 460, 683, 684, 685, 686, 687, 719, 720, 721, 722, 723, 724, 725, 726, 727, 709, 710, 711, 712, 713, 714, 715] (by decide +kernel) (by decide +kernel)
set_option maxRecDepth 20000 in
theorem gL_law_X4_member : GoodIn wsL_law (wsV RL 68 RX4 yX4_member wsX4_member) := goodIn_app (goodIn_of _ (by decide +kernel)) ggL_law_X4_member
set_option maxRecDepth 20000 in
theorem ggL_law_X5_member : GoodIn wsL_law wsX5_member := goodIn_r _ [533, 492, 179, 534, 535, 5, 536, 195, 196, 197, 483, 484, 485, 486, 487, 470, 471, 472, 473, 171, 474, 175, 176, 177, 488, 489, 490, 491, 493, 178, 180, 181, 494, 495, 496, 497, 264, 265, 266, 475, 476, 477, 478, 498, 499, 500, 501, 502, 503, 504, 505, 382, 383, 384, 506, 507, 508, 509, 510, 511, 512, 513, 514, 688, 689, 690, 691, 692, 693, 694, 695, 696, 697, 698, 699, 700, 701, 702, 703, 704, 705, 706] (by decide +kernel) (by decide +kernel)
set_option maxRecDepth 20000 in
theorem gL_law_X5_member : GoodIn wsL_law (wsV RL 71 RX5 yX5_member wsX5_member) := goodIn_app (goodIn_of _ (by decide +kernel)) ggL_law_X5_member
set_option maxRecDepth 20000 in
theorem ggL_law_X4_members : GoodIn wsL_law wsX4_members := goodIn_r _ [540, 28, 19, 527, 528, 2, 529, 425, 27, 426, 427, 428, 429, 430, 431, 432, 433, 434, 54, 52, 418, 18, 419, 420, 143, 144, 145, 146, 115, 37, 147, 148, 149, 150, 38, 435, 436, 437, 438, 53, 162, 163, 439, 440, 441, 442, 443, 444, 445, 446, 447, 368, 369, 370, 371, 372, 373, 448, 449, 450, 451, 452, 453, 454, 455, 48, 50, 51, 456, 457, 458, 459, 460, 683, 684, 685, 686, 687, 709, 710, 711, 712, 713, 714, 715, 719, 720, 721, 722, 723, 724, 725, 726, 727] (by decide +kernel) (by decide +kernel)
set_option maxRecDepth 20000 in
theorem gL_law_X4_members : GoodIn wsL_law (wsV RL 72 RX4 yX4_members wsX4_members) := goodIn_app (goodIn_of _ (by decide +kernel)) ggL_law_X4_members
set_option maxRecDepth 20000 in
theorem ggL_law_X5_members : GoodIn wsL_law wsX5_members := goodIn_r _ [544, 534, 535, 5, 536, 195, 196, 197, 483, 484, 485, 486, 487, 470, 471, 472, 473, 171, 474, 175, 176, 177, 488, 489, 490, 491, 492, 493, 178, 180, 181, 179, 494, 495, 496, 497, 264, 265, 266, 475, 476, 477, 478, 498, 499, 500, 501, 502, 503, 504, 505, 382, 383, 384, 506, 507, 508, 509, 510, 511, 512, 513, 514, 688, 689, 690, 691, 692, 693, 694, 695, 696, 697, 698, 699, 700, 701, 702, 703, 704, 705, 706] (by decide +kernel) (by decide +kernel)
set_option maxRecDepth 20000 in
theorem gL_law_X5_members : GoodIn wsL_law (wsV RL 75 RX5 yX5_members wsX5_members) := goodIn_app (goodIn_of _ (by decide +kernel)) ggL_law_X5_members
set_option maxRecDepth 20000 in
theorem ggL_law_X4_came : GoodIn wsL_law wsX4_came := goodIn_r _ [548, 549, 28, 19, 550, 527, 528, 2, 529, 551, 552, 553, 425, 27, 426, 427, 428, 429, 430, 431, 432, 433, 434, 54, 52, 418, 18, 419, 420, 143, 144, 145, 146, 115, 37, 147, 148, 149, 150, 38, 435, 436, 437, 438, 53, 162, 163, 439, 440, 441, 442, 443, 444, 445, 446, 447, 368, 369, 370, 371, 372, 373, 448, 449, 450, 451, 452, 453, 454, 455, 48, 50, 51, 456, 457, 458, 459, 460, 554, 555, 556, 557, 558, 302, 559, 560, 561, 562, 683, 684, 685, 686, 687, 719, 720, 721, 722, 723, 724, 725, 726, 727, 709, 710, 711, 712, 713, 714, 715] (by decide +kernel) (by decide +kernel)
set_option maxRecDepth 20000 in
theorem gL_law_X4_came : GoodIn wsL_law (wsV RL 76 RX4 yX4_came wsX4_came) := goodIn_app (goodIn_of _ (by decide +kernel)) ggL_law_X4_came
set_option maxRecDepth 20000 in
theorem ggL_law_X5_came : GoodIn wsL_law wsX5_came := goodIn_r _ [566, 567, 492, 181, 180, 568, 534, 535, 5, 536, 195, 196, 197, 569, 570, 571, 470, 471, 472, 473, 171, 474, 175, 176, 177, 488, 489, 490, 491, 487, 493, 178, 179, 494, 495, 496, 497, 264, 265, 266, 475, 476, 477, 478, 498, 499, 500, 501, 502, 503, 504, 505, 382, 383, 384, 506, 507, 508, 509, 510, 511, 512, 513, 514, 572, 573, 574, 688, 689, 690, 691, 692, 693, 694, 695, 696, 697, 698, 699, 700, 701, 702, 703, 704, 705, 706] (by decide +kernel) (by decide +kernel)
set_option maxRecDepth 20000 in
theorem gL_law_X5_came : GoodIn wsL_law (wsV RL 80 RX5 yX5_came wsX5_came) := goodIn_app (goodIn_of _ (by decide +kernel)) ggL_law_X5_came
set_option maxRecDepth 20000 in
theorem ggL_law_X4_load : GoodIn wsL_law wsX4_load := goodIn_r _ [578, 549, 28, 19, 324, 325, 326, 2, 327, 551, 552, 553, 425, 27, 426, 427, 428, 429, 430, 431, 432, 433, 434, 54, 52, 418, 18, 419, 420, 143, 144, 145, 146, 115, 37, 147, 148, 149, 150, 38, 435, 436, 437, 438, 53, 162, 163, 439, 440, 441, 442, 443, 444, 445, 446, 447, 368, 369, 370, 371, 372, 373, 448, 449, 450, 451, 452, 453, 454, 455, 48, 50, 51, 456, 457, 458, 459, 460, 554, 555, 556, 557, 558, 302, 559, 560, 561, 562, 683, 684, 685, 686, 687, 719, 720, 721, 722, 723, 724, 725, 726, 727, 709, 710, 711, 712, 713, 714, 715] (by decide +kernel) (by decide +kernel)
set_option maxRecDepth 20000 in
theorem gL_law_X4_load : GoodIn wsL_law (wsV RL 81 RX4 yX4_load wsX4_load) := goodIn_app (goodIn_of _ (by decide +kernel)) ggL_law_X4_load
set_option maxRecDepth 20000 in
theorem ggL_law_X5_load : GoodIn wsL_law wsX5_load := goodIn_r _ [582, 567, 178, 493, 332, 333, 334, 5, 335, 171, 195, 196, 197, 569, 570, 571, 470, 471, 472, 473, 474, 175, 176, 177, 488, 489, 490, 491, 492, 487, 180, 181, 179, 494, 495, 496, 497, 264, 265, 266, 475, 476, 477, 478, 498, 499, 500, 501, 502, 503, 504, 505, 382, 383, 384, 506, 507, 508, 509, 510, 511, 512, 513, 514, 572, 573, 574, 688, 689, 690, 691, 692, 693, 694, 695, 696, 697, 698, 699, 700, 701, 702, 703, 704, 705, 706] (by decide +kernel) (by decide +kernel)
set_option maxRecDepth 20000 in
theorem gL_law_X5_load : GoodIn wsL_law (wsV RL 85 RX5 yX5_load wsX5_load) := goodIn_app (goodIn_of _ (by decide +kernel)) ggL_law_X5_load
set_option maxRecDepth 20000 in
theorem ggL_law_X4_greatest : GoodIn wsL_law wsX4_greatest := goodIn_r _ [586, 549, 28, 19, 557, 558, 302, 559, 551, 552, 2, 553, 425, 27, 426, 427, 428, 429, 430, 431, 432, 433, 434, 54, 52, 418, 18, 419, 420, 143, 144, 145, 146, 115, 37, 147, 148, 149, 150, 38, 435, 436, 437, 438, 53, 162, 163, 439, 440, 441, 442, 443, 444, 445, 446, 447, 368, 369, 370, 371, 372, 373, 448, 449, 450, 451, 452, 453, 454, 455, 48, 50, 51, 456, 457, 458, 459, 460, 554, 555, 556, 560, 561, 562, 683, 684, 685, 686, 687, 709, 710, 711, 712, 713, 714, 715, 719, 720, 721, 722, 723, 724, 725, 726, 727] (by decide +kernel) (by decide +kernel)
set_option maxRecDepth 20000 in
theorem gL_law_X4_greatest : GoodIn wsL_law (wsV RL 86 RX4 yX4_greatest wsX4_greatest) := goodIn_app (goodIn_of _ (by decide +kernel)) ggL_law_X4_greatest
set_option maxRecDepth 20000 in
theorem ggL_law_X5_greatest : GoodIn wsL_law wsX5_greatest := goodIn_r _ [590, 567, 474, 178, 493, 569, 570, 5, 571, 195, 196, 197, 470, 471, 472, 473, 171, 175, 176, 177, 488, 489, 490, 491, 492, 487, 180, 181, 179, 494, 495, 496, 497, 264, 265, 266, 475, 476, 477, 478, 498, 499, 500, 501, 502, 503, 504, 505, 382, 383, 384, 506, 507, 508, 509, 510, 511, 512, 513, 514, 572, 573, 574, 688, 689, 690, 691, 692, 693, 694, 695, 696, 697, 698, 699, 700, 701, 702, 703, 704, 705, 706] (by decide +kernel) (by decide +kernel)
set_option maxRecDepth 20000 in
theorem gL_law_X5_greatest : GoodIn wsL_law (wsV RL 90 RX5 yX5_greatest wsX5_greatest) := goodIn_app (goodIn_of _ (by decide +kernel)) ggL_law_X5_greatest
set_option maxRecDepth 20000 in
theorem ggL_law_X4_agrees : GoodIn wsL_law wsX4_agrees := goodIn_r _ [594, 19, 28, 292, 293, 294, 2, 295, 144, 18, 145, 146, 115, 37, 147, 148, 149, 150, 38, 595, 596, 597, 116, 143, 598, 368, 369, 370, 371, 372, 373, 599, 140, 141, 142, 425, 27, 426, 427, 428, 429, 430, 431, 432, 433, 434, 54, 52, 418, 419, 420, 435, 436, 437, 438, 53, 162, 163, 439, 440, 441, 442, 443, 444, 445, 446, 447, 448, 449, 450, 451, 452, 453, 454, 455, 48, 50, 51, 456, 457, 458, 459, 460, 600, 601, 602, 367, 683, 684, 685, 686, 687, 709, 710, 711, 712, 713, 714, 715, 719, 720, 721, 722, 723, 724, 725, 726, 727] (by decide +kernel) (by decide +kernel)
set_option maxRecDepth 20000 in
theorem gL_law_X4_agrees : GoodIn wsL_law (wsV RL 91 RX4 yX4_agrees wsX4_agrees) := goodIn_app (goodIn_of _ (by decide +kernel)) ggL_law_X4_agrees
set_option maxRecDepth 20000 in
theorem ggL_law_X5_agrees : GoodIn wsL_law wsX5_agrees := goodIn_r _ [606, 308, 309, 310, 5, 311, 171, 195, 196, 197, 607, 608, 609, 610, 611, 612, 613, 614, 382, 383, 384, 312, 313, 314, 315, 615, 616, 617, 618, 483, 484, 485, 486, 487, 470, 471, 472, 473, 474, 175, 176, 177, 488, 489, 490, 491, 492, 493, 178, 180, 181, 179, 494, 495, 496, 497, 264, 265, 266, 475, 476, 477, 478, 498, 499, 500, 501, 502, 503, 504, 505, 506, 507, 508, 509, 510, 511, 512, 513, 514, 688, 689, 690, 691, 692, 693, 694, 695, 696, 697, 698, 699, 700, 701, 702, 703, 704, 705, 706] (by decide +kernel) (by decide +kernel)
set_option maxRecDepth 20000 in
theorem gL_law_X5_agrees : GoodIn wsL_law (wsV RL 94 RX5 yX5_agrees wsX5_agrees) := goodIn_app (goodIn_of _ (by decide +kernel)) ggL_law_X5_agrees
set_option maxRecDepth 20000 in
theorem ggL_law_X4_shorts : GoodIn wsL_law wsX4_shorts := goodIn_r _ [622, 28, 19, 527, 528, 2, 529, 425, 27, 426, 427, 428, 429, 430, 431, 432, 433, 434, 54, 52, 418, 18, 419, 420, 143, 144, 145, 146, 115, 37, 147, 148, 149, 150, 38, 435, 436, 437, 438, 53, 162, 163, 439, 440, 441, 442, 443, 444, 445, 446, 447, 368, 369, 370, 371, 372, 373, 448, 449, 450, 451, 452, 453, 454, 455, 48, 50, 51, 456, 457, 458, 459, 460, 623, 624, 625, 626, 595, 596, 597, 116, 598, 599, 140, 141, 142, 627, 600, 601, 602, 683, 684, 685, 686, 687, 709, 710, 711, 712, 713, 714, 715, 719, 720, 721, 722, 723, 724, 725, 726, 727] (by decide +kernel) (by decide +kernel)
set_option maxRecDepth 20000 in
theorem gL_law_X4_shorts : GoodIn wsL_law (wsV RL 95 RX4 yX4_shorts wsX4_shorts) := goodIn_app (goodIn_of _ (by decide +kernel)) ggL_law_X4_shorts
set_option maxRecDepth 20000 in
theorem ggL_law_X5_shorts : GoodIn wsL_law wsX5_shorts := goodIn_r _ [631, 171, 534, 535, 5, 536, 195, 196, 197, 483, 484, 485, 486, 487, 470, 471, 472, 473, 474, 175, 176, 177, 488, 489, 490, 491, 492, 493, 178, 180, 181, 179, 494, 495, 496, 497, 264, 265, 266, 475, 476, 477, 478, 498, 499, 500, 501, 502, 503, 504, 505, 382, 383, 384, 506, 507, 508, 509, 510, 511, 512, 513, 514, 611, 612, 613, 614, 607, 608, 609, 610, 312, 313, 314, 315, 615, 616, 617, 618, 688, 689, 690, 691, 692, 693, 694, 695, 696, 697, 698, 699, 700, 701, 702, 703, 704, 705, 706] (by decide +kernel) (by decide +kernel)
set_option maxRecDepth 20000 in
theorem gL_law_X5_shorts : GoodIn wsL_law (wsV RL 98 RX5 yX5_shorts wsX5_shorts) := goodIn_app (goodIn_of _ (by decide +kernel)) ggL_law_X5_shorts
set_option maxRecDepth 20000 in
theorem ggL_law_X4_joins : GoodIn wsL_law wsX4_joins := goodIn_r _ [635, 19, 20, 28, 527, 528, 2, 529, 360, 361, 362, 363, 364, 18, 365, 366, 117, 162, 163, 271, 272, 273, 114, 115, 116, 37, 274, 275, 276, 277, 38, 39, 151, 152, 153, 425, 27, 426, 427, 428, 429, 430, 431, 432, 433, 434, 54, 52, 418, 419, 420, 143, 144, 145, 146, 147, 148, 149, 150, 435, 436, 437, 438, 53, 439, 440, 441, 442, 443, 444, 445, 446, 447, 368, 369, 370, 371, 372, 373, 448, 449, 450, 451, 452, 453, 454, 455, 48, 50, 51, 456, 457, 458, 459, 460, 461, 683, 684, 685, 686, 687, 709, 710, 711, 712, 713, 714, 715, 719, 720, 721, 722, 723, 724, 725, 726, 727] (by decide +kernel) (by decide +kernel)
set_option maxRecDepth 20000 in
theorem gL_law_X4_joins : GoodIn wsL_law (wsV RL 99 RX4 yX4_joins wsX4_joins) := goodIn_app (goodIn_of _ (by decide +kernel)) ggL_law_X4_joins
set_option maxRecDepth 20000 in
theorem ggL_law_X5_joins : GoodIn wsL_law wsX5_joins := goodIn_r _ [639, 171, 474, 175, 176, 487, 534, 535, 5, 536, 195, 196, 197, 378, 379, 380, 381, 264, 265, 266, 470, 471, 472, 473, 177, 488, 489, 490, 491, 492, 493, 178, 180, 181, 179, 494, 495, 496, 497, 475, 476, 477, 478, 498, 499, 500, 501, 502, 503, 504, 505, 382, 383, 384, 506, 507, 508, 509, 510, 511, 512, 513, 514, 688, 689, 690, 691, 692, 693, 694, 695, 696, 697, 698, 699, 700, 701, 702, 703, 704, 705, 706] (by decide +kernel) (by decide +kernel)
set_option maxRecDepth 20000 in
theorem gL_law_X5_joins : GoodIn wsL_law (wsV RL 102 RX5 yX5_joins wsX5_joins) := goodIn_app (goodIn_of _ (by decide +kernel)) ggL_law_X5_joins
set_option maxRecDepth 20000 in
theorem ggL_law_X4_matters : GoodIn wsL_law wsX4_matters := goodIn_r _ [643, 28, 19, 20, 527, 528, 2, 529, 425, 27, 426, 427, 428, 429, 430, 431, 432, 433, 434, 54, 52, 418, 18, 419, 420, 143, 144, 145, 146, 115, 37, 147, 148, 149, 150, 38, 435, 436, 437, 438, 53, 162, 163, 439, 440, 441, 442, 443, 444, 445, 446, 447, 368, 369, 370, 371, 372, 373, 448, 449, 450, 451, 452, 453, 454, 455, 48, 50, 51, 456, 457, 458, 459, 460, 271, 272, 273, 114, 116, 117, 274, 275, 276, 277, 39, 683, 684, 685, 686, 687, 709, 710, 711, 712, 713, 714, 715, 719, 720, 721, 722, 723, 724, 725, 726, 727] (by decide +kernel) (by decide +kernel)
set_option maxRecDepth 20000 in
theorem gL_law_X4_matters : GoodIn wsL_law (wsV RL 103 RX4 yX4_matters wsX4_matters) := goodIn_app (goodIn_of _ (by decide +kernel)) ggL_law_X4_matters
set_option maxRecDepth 20000 in
theorem ggL_law_X5_matters : GoodIn wsL_law wsX5_matters := goodIn_r _ [647, 474, 175, 487, 534, 535, 5, 536, 195, 196, 197, 483, 484, 485, 486, 470, 471, 472, 473, 171, 176, 177, 488, 489, 490, 491, 492, 493, 178, 180, 181, 179, 494, 495, 496, 497, 264, 265, 266, 475, 476, 477, 478, 498, 499, 500, 501, 502, 503, 504, 505, 382, 383, 384, 506, 507, 508, 509, 510, 511, 512, 513, 514, 688, 689, 690, 691, 692, 693, 694, 695, 696, 697, 698, 699, 700, 701, 702, 703, 704, 705, 706] (by decide +kernel) (by decide +kernel)
set_option maxRecDepth 20000 in
theorem gL_law_X5_matters : GoodIn wsL_law (wsV RL 106 RX5 yX5_matters wsX5_matters) := goodIn_app (goodIn_of _ (by decide +kernel)) ggL_law_X5_matters
set_option maxRecDepth 20000 in
theorem ggL_law_X4_rather : GoodIn wsL_law wsX4_rather := goodIn_r _ [651, 19, 28, 20, 527, 528, 2, 529, 324, 325, 326, 327, 425, 27, 426, 427, 428, 429, 430, 431, 432, 433, 434, 54, 52, 418, 18, 419, 420, 143, 144, 145, 146, 115, 37, 147, 148, 149, 150, 38, 435, 436, 437, 438, 53, 162, 163, 439, 440, 441, 442, 443, 444, 445, 446, 447, 368, 369, 370, 371, 372, 373, 448, 449, 450, 451, 452, 453, 454, 455, 48, 50, 51, 456, 457, 458, 459, 460, 367, 271, 272, 273, 114, 116, 117, 274, 275, 276, 277, 39, 683, 684, 685, 686, 687, 709, 710, 711, 712, 713, 714, 715, 719, 720, 721, 722, 723, 724, 725, 726, 727] (by decide +kernel) (by decide +kernel)
set_option maxRecDepth 20000 in
theorem gL_law_X4_rather : GoodIn wsL_law (wsV RL 107 RX4 yX4_rather wsX4_rather) := goodIn_app (goodIn_of _ (by decide +kernel)) ggL_law_X4_rather
set_option maxRecDepth 20000 in
theorem ggL_law_X5_rather : GoodIn wsL_law wsX5_rather := goodIn_r _ [655, 171, 176, 487, 534, 535, 5, 536, 195, 196, 197, 332, 333, 334, 335, 483, 484, 485, 486, 470, 471, 472, 473, 474, 175, 177, 488, 489, 490, 491, 492, 493, 178, 180, 181, 179, 494, 495, 496, 497, 264, 265, 266, 475, 476, 477, 478, 498, 499, 500, 501, 502, 503, 504, 505, 382, 383, 384, 506, 507, 508, 509, 510, 511, 512, 513, 514, 688, 689, 690, 691, 692, 693, 694, 695, 696, 697, 698, 699, 700, 701, 702, 703, 704, 705, 706] (by decide +kernel) (by decide +kernel)
set_option maxRecDepth 20000 in
theorem gL_law_X5_rather : GoodIn wsL_law (wsV RL 111 RX5 yX5_rather wsX5_rather) := goodIn_app (goodIn_of _ (by decide +kernel)) ggL_law_X5_rather
set_option maxRecDepth 20000 in
theorem ggL_law_X4_decided : GoodIn wsL_law wsX4_decided := goodIn_r _ [659, 28, 19, 20, 527, 528, 2, 529, 425, 27, 426, 427, 428, 429, 430, 431, 432, 433, 434, 54, 52, 418, 18, 419, 420, 143, 144, 145, 146, 115, 37, 147, 148, 149, 150, 38, 435, 436, 437, 438, 53, 162, 163, 439, 440, 441, 442, 443, 444, 445, 446, 447, 368, 369, 370, 371, 372, 373, 448, 449, 450, 451, 452, 453, 454, 455, 48, 50, 51, 456, 457, 458, 459, 460, 271, 272, 273, 114, 116, 117, 274, 275, 276, 277, 39, 660, 661, 662, 683, 684, 685, 686, 687, 709, 710, 711, 712, 713, 714, 715, 719, 720, 721, 722, 723, 724, 725, 726, 727] (by decide +kernel) (by decide +kernel)
set_option maxRecDepth 20000 in
theorem gL_law_X4_decided : GoodIn wsL_law (wsV RL 112 RX4 yX4_decided wsX4_decided) := goodIn_app (goodIn_of _ (by decide +kernel)) ggL_law_X4_decided
set_option maxRecDepth 20000 in
theorem ggL_law_X5_decided : GoodIn wsL_law wsX5_decided := goodIn_r _ [666, 171, 177, 487, 534, 535, 5, 536, 195, 196, 197, 483, 484, 485, 486, 470, 471, 472, 473, 474, 175, 176, 488, 489, 490, 491, 492, 493, 178, 180, 181, 179, 494, 495, 496, 497, 264, 265, 266, 475, 476, 477, 478, 498, 499, 500, 501, 502, 503, 504, 505, 382, 383, 384, 506, 507, 508, 509, 510, 511, 512, 513, 514, 688, 689, 690, 691, 692, 693, 694, 695, 696, 697, 698, 699, 700, 701, 702, 703, 704, 705, 706] (by decide +kernel) (by decide +kernel)
set_option maxRecDepth 20000 in
theorem gL_law_X5_decided : GoodIn wsL_law (wsV RL 115 RX5 yX5_decided wsX5_decided) := goodIn_app (goodIn_of _ (by decide +kernel)) ggL_law_X5_decided
set_option maxRecDepth 20000 in
theorem ggL_law_X4_both : GoodIn wsL_law wsX4_both := goodIn_r _ [670, 28, 19, 527, 528, 2, 529, 425, 27, 426, 427, 428, 429, 430, 431, 432, 433, 434, 54, 52, 418, 18, 419, 420, 143, 144, 145, 146, 115, 37, 147, 148, 149, 150, 38, 435, 436, 437, 438, 53, 162, 163, 439, 440, 441, 442, 443, 444, 445, 446, 447, 368, 369, 370, 371, 372, 373, 448, 449, 450, 451, 452, 453, 454, 455, 48, 50, 51, 456, 457, 458, 459, 460, 367, 683, 684, 685, 686, 687, 709, 710, 711, 712, 713, 714, 715, 719, 720, 721, 722, 723, 724, 725, 726, 727] (by decide +kernel) (by decide +kernel)
set_option maxRecDepth 20000 in
theorem gL_law_X4_both : GoodIn wsL_law (wsV RL 116 RX4 yX4_both wsX4_both) := goodIn_app (goodIn_of _ (by decide +kernel)) ggL_law_X4_both
set_option maxRecDepth 20000 in
theorem ggL_law_X5_both : GoodIn wsL_law wsX5_both := goodIn_r _ [674, 534, 535, 5, 536, 195, 196, 197, 483, 484, 485, 486, 487, 470, 471, 472, 473, 171, 474, 175, 176, 177, 488, 489, 490, 491, 492, 493, 178, 180, 181, 179, 494, 495, 496, 497, 264, 265, 266, 475, 476, 477, 478, 498, 499, 500, 501, 502, 503, 504, 505, 382, 383, 384, 506, 507, 508, 509, 510, 511, 512, 513, 514, 688, 689, 690, 691, 692, 693, 694, 695, 696, 697, 698, 699, 700, 701, 702, 703, 704, 705, 706] (by decide +kernel) (by decide +kernel)
set_option maxRecDepth 20000 in
theorem gL_law_X5_both : GoodIn wsL_law (wsV RL 119 RX5 yX5_both wsX5_both) := goodIn_app (goodIn_of _ (by decide +kernel)) ggL_law_X5_both
set_option maxRecDepth 20000 in
theorem ggL_law_X4_count : GoodIn wsL_law wsX4_count := goodIn_r _ [678, 19, 24, 15, 140, 18, 141, 142, 143, 144, 145, 146, 115, 37, 147, 148, 149, 150, 38, 367, 368, 369, 370, 371, 372, 373, 683, 684, 685, 686, 687, 709, 710, 711, 712, 713, 714, 715, 716, 717, 718, 707, 708] (by decide +kernel) (by decide +kernel)
set_option maxRecDepth 20000 in
theorem gL_law_X4_count : GoodIn wsL_law (wsV RL 120 RX4 yX4_count wsX4_count) := goodIn_app (goodIn_of _ (by decide +kernel)) ggL_law_X4_count
set_option maxRecDepth 20000 in
theorem ggL_law_X5_count : GoodIn wsL_law wsX5_count := goodIn_r _ [682, 171, 286, 194, 312, 313, 314, 5, 315, 382, 383, 384, 688, 689, 690, 691, 692, 693, 694, 695, 696, 697, 698, 699, 700, 701, 702, 703, 704, 705, 706] (by decide +kernel) (by decide +kernel)
set_option maxRecDepth 20000 in
theorem gL_law_X5_count : GoodIn wsL_law (wsV RL 123 RX5 yX5_count wsX5_count) := goodIn_app (goodIn_of _ (by decide +kernel)) ggL_law_X5_count
theorem dL_law_0 : decode cL_law 0 = .ok (.new 7, 3) := by decide +kernel
theorem dL_law_3 : decode cL_law 3 = .ok (.dup, 1) := by decide +kernel
theorem dL_law_4 : decode cL_law 4 = .ok (.invokespecial 9, 3) := by decide +kernel
theorem dL_law_7 : decode cL_law 7 = .ok (.astore_n 1, 1) := by decide +kernel
theorem dL_law_8 : decode cL_law 8 = .ok (.new 10, 3) := by decide +kernel
theorem dL_law_11 : decode cL_law 11 = .ok (.dup, 1) := by decide +kernel
theorem dL_law_12 : decode cL_law 12 = .ok (.invokespecial 12, 3) := by decide +kernel
theorem dL_law_15 : decode cL_law 15 = .ok (.astore_n 2, 1) := by decide +kernel
theorem dL_law_16 : decode cL_law 16 = .ok (.iconst 0, 1) := by decide +kernel
theorem dL_law_17 : decode cL_law 17 = .ok (.istore_n 3, 1) := by decide +kernel
theorem dL_law_18 : decode cL_law 18 = .ok (.iload_n 3, 1) := by decide +kernel
theorem dL_law_19 : decode cL_law 19 = .ok (.aload_n 0, 1) := by decide +kernel
theorem dL_law_20 : decode cL_law 20 = .ok (.arraylength, 1) := by decide +kernel
theorem dL_law_21 : decode cL_law 21 = .ok (.iconst 4, 1) := by decide +kernel
theorem dL_law_22 : decode cL_law 22 = .ok (.isub, 1) := by decide +kernel
theorem dL_law_23 : decode cL_law 23 = .ok (.if_icmp .gt 856, 3) := by decide +kernel
theorem dL_law_26 : decode cL_law 26 = .ok (.aload_n 0, 1) := by decide +kernel
theorem dL_law_27 : decode cL_law 27 = .ok (.iload_n 3, 1) := by decide +kernel
theorem dL_law_28 : decode cL_law 28 = .ok (.iaload, 1) := by decide +kernel
theorem dL_law_29 : decode cL_law 29 = .ok (.bipush 31, 2) := by decide +kernel
theorem dL_law_31 : decode cL_law 31 = .ok (.iand, 1) := by decide +kernel
theorem dL_law_32 : decode cL_law 32 = .ok (.tableswitch 841 0 25 #[120, 143, 156, 169, 182, 215, 248, 281, 304, 337, 360, 373, 406, 439, 472, 495, 539, 573, 597, 630, 663, 696, 719, 762, 785, 818], 120) := by decide +kernel
theorem dL_law_152 : decode cL_law 152 = .ok (.aload_n 1, 1) := by decide +kernel
theorem dL_law_153 : decode cL_law 153 = .ok (.aload_n 0, 1) := by decide +kernel
theorem dL_law_154 : decode cL_law 154 = .ok (.iload_n 3, 1) := by decide +kernel
theorem dL_law_155 : decode cL_law 155 = .ok (.iconst 1, 1) := by decide +kernel
theorem dL_law_156 : decode cL_law 156 = .ok (.iadd, 1) := by decide +kernel
theorem dL_law_157 : decode cL_law 157 = .ok (.iaload, 1) := by decide +kernel
theorem dL_law_158 : decode cL_law 158 = .ok (.invokevirtual 13, 3) := by decide +kernel
theorem dL_law_161 : decode cL_law 161 = .ok (.aload_n 2, 1) := by decide +kernel
theorem dL_law_162 : decode cL_law 162 = .ok (.aload_n 0, 1) := by decide +kernel
theorem dL_law_163 : decode cL_law 163 = .ok (.iload_n 3, 1) := by decide +kernel
theorem dL_law_164 : decode cL_law 164 = .ok (.iconst 1, 1) := by decide +kernel
theorem dL_law_165 : decode cL_law 165 = .ok (.iadd, 1) := by decide +kernel
theorem dL_law_166 : decode cL_law 166 = .ok (.iaload, 1) := by decide +kernel
theorem dL_law_167 : decode cL_law 167 = .ok (.invokevirtual 17, 3) := by decide +kernel
theorem dL_law_170 : decode cL_law 170 = .ok (.if_icmp .eq 703, 3) := by decide +kernel
theorem dL_law_173 : decode cL_law 173 = .ok (.iconst 0, 1) := by decide +kernel
theorem dL_law_174 : decode cL_law 174 = .ok (.ireturn, 1) := by decide +kernel
theorem dL_law_175 : decode cL_law 175 = .ok (.aload_n 1, 1) := by decide +kernel
theorem dL_law_176 : decode cL_law 176 = .ok (.invokevirtual 18, 3) := by decide +kernel
theorem dL_law_179 : decode cL_law 179 = .ok (.aload_n 2, 1) := by decide +kernel
theorem dL_law_180 : decode cL_law 180 = .ok (.invokevirtual 22, 3) := by decide +kernel
theorem dL_law_183 : decode cL_law 183 = .ok (.if_icmp .eq 690, 3) := by decide +kernel
theorem dL_law_186 : decode cL_law 186 = .ok (.iconst 0, 1) := by decide +kernel
theorem dL_law_187 : decode cL_law 187 = .ok (.ireturn, 1) := by decide +kernel
theorem dL_law_188 : decode cL_law 188 = .ok (.aload_n 1, 1) := by decide +kernel
theorem dL_law_189 : decode cL_law 189 = .ok (.invokevirtual 23, 3) := by decide +kernel
theorem dL_law_192 : decode cL_law 192 = .ok (.aload_n 2, 1) := by decide +kernel
theorem dL_law_193 : decode cL_law 193 = .ok (.invokevirtual 26, 3) := by decide +kernel
theorem dL_law_196 : decode cL_law 196 = .ok (.if_icmp .eq 677, 3) := by decide +kernel
theorem dL_law_199 : decode cL_law 199 = .ok (.iconst 0, 1) := by decide +kernel
theorem dL_law_200 : decode cL_law 200 = .ok (.ireturn, 1) := by decide +kernel
theorem dL_law_201 : decode cL_law 201 = .ok (.aload_n 1, 1) := by decide +kernel
theorem dL_law_202 : decode cL_law 202 = .ok (.invokevirtual 27, 3) := by decide +kernel
theorem dL_law_205 : decode cL_law 205 = .ok (.aload_n 2, 1) := by decide +kernel
theorem dL_law_206 : decode cL_law 206 = .ok (.invokevirtual 30, 3) := by decide +kernel
theorem dL_law_209 : decode cL_law 209 = .ok (.if_icmp .eq 664, 3) := by decide +kernel
theorem dL_law_212 : decode cL_law 212 = .ok (.iconst 0, 1) := by decide +kernel
theorem dL_law_213 : decode cL_law 213 = .ok (.ireturn, 1) := by decide +kernel
theorem dL_law_214 : decode cL_law 214 = .ok (.aload_n 1, 1) := by decide +kernel
theorem dL_law_215 : decode cL_law 215 = .ok (.aload_n 0, 1) := by decide +kernel
theorem dL_law_216 : decode cL_law 216 = .ok (.iload_n 3, 1) := by decide +kernel
theorem dL_law_217 : decode cL_law 217 = .ok (.iconst 1, 1) := by decide +kernel
theorem dL_law_218 : decode cL_law 218 = .ok (.iadd, 1) := by decide +kernel
theorem dL_law_219 : decode cL_law 219 = .ok (.iaload, 1) := by decide +kernel
theorem dL_law_220 : decode cL_law 220 = .ok (.aload_n 0, 1) := by decide +kernel
theorem dL_law_221 : decode cL_law 221 = .ok (.iload_n 3, 1) := by decide +kernel
theorem dL_law_222 : decode cL_law 222 = .ok (.iconst 2, 1) := by decide +kernel
theorem dL_law_223 : decode cL_law 223 = .ok (.iadd, 1) := by decide +kernel
theorem dL_law_224 : decode cL_law 224 = .ok (.iaload, 1) := by decide +kernel
theorem dL_law_225 : decode cL_law 225 = .ok (.invokevirtual 31, 3) := by decide +kernel
theorem dL_law_228 : decode cL_law 228 = .ok (.aload_n 2, 1) := by decide +kernel
theorem dL_law_229 : decode cL_law 229 = .ok (.aload_n 0, 1) := by decide +kernel
theorem dL_law_230 : decode cL_law 230 = .ok (.iload_n 3, 1) := by decide +kernel
theorem dL_law_231 : decode cL_law 231 = .ok (.iconst 1, 1) := by decide +kernel
theorem dL_law_232 : decode cL_law 232 = .ok (.iadd, 1) := by decide +kernel
theorem dL_law_233 : decode cL_law 233 = .ok (.iaload, 1) := by decide +kernel
theorem dL_law_234 : decode cL_law 234 = .ok (.aload_n 0, 1) := by decide +kernel
theorem dL_law_235 : decode cL_law 235 = .ok (.iload_n 3, 1) := by decide +kernel
theorem dL_law_236 : decode cL_law 236 = .ok (.iconst 2, 1) := by decide +kernel
theorem dL_law_237 : decode cL_law 237 = .ok (.iadd, 1) := by decide +kernel
theorem dL_law_238 : decode cL_law 238 = .ok (.iaload, 1) := by decide +kernel
theorem dL_law_239 : decode cL_law 239 = .ok (.invokevirtual 35, 3) := by decide +kernel
theorem dL_law_242 : decode cL_law 242 = .ok (.if_icmp .eq 631, 3) := by decide +kernel
theorem dL_law_245 : decode cL_law 245 = .ok (.iconst 0, 1) := by decide +kernel
theorem dL_law_246 : decode cL_law 246 = .ok (.ireturn, 1) := by decide +kernel
theorem dL_law_247 : decode cL_law 247 = .ok (.aload_n 1, 1) := by decide +kernel
theorem dL_law_248 : decode cL_law 248 = .ok (.aload_n 0, 1) := by decide +kernel
theorem dL_law_249 : decode cL_law 249 = .ok (.iload_n 3, 1) := by decide +kernel
theorem dL_law_250 : decode cL_law 250 = .ok (.iconst 1, 1) := by decide +kernel
theorem dL_law_251 : decode cL_law 251 = .ok (.iadd, 1) := by decide +kernel
theorem dL_law_252 : decode cL_law 252 = .ok (.iaload, 1) := by decide +kernel
theorem dL_law_253 : decode cL_law 253 = .ok (.aload_n 0, 1) := by decide +kernel
theorem dL_law_254 : decode cL_law 254 = .ok (.iload_n 3, 1) := by decide +kernel
theorem dL_law_255 : decode cL_law 255 = .ok (.iconst 2, 1) := by decide +kernel
theorem dL_law_256 : decode cL_law 256 = .ok (.iadd, 1) := by decide +kernel
theorem dL_law_257 : decode cL_law 257 = .ok (.iaload, 1) := by decide +kernel
theorem dL_law_258 : decode cL_law 258 = .ok (.invokevirtual 36, 3) := by decide +kernel
theorem dL_law_261 : decode cL_law 261 = .ok (.aload_n 2, 1) := by decide +kernel
theorem dL_law_262 : decode cL_law 262 = .ok (.aload_n 0, 1) := by decide +kernel
theorem dL_law_263 : decode cL_law 263 = .ok (.iload_n 3, 1) := by decide +kernel
theorem dL_law_264 : decode cL_law 264 = .ok (.iconst 1, 1) := by decide +kernel
theorem dL_law_265 : decode cL_law 265 = .ok (.iadd, 1) := by decide +kernel
theorem dL_law_266 : decode cL_law 266 = .ok (.iaload, 1) := by decide +kernel
theorem dL_law_267 : decode cL_law 267 = .ok (.aload_n 0, 1) := by decide +kernel
theorem dL_law_268 : decode cL_law 268 = .ok (.iload_n 3, 1) := by decide +kernel
theorem dL_law_269 : decode cL_law 269 = .ok (.iconst 2, 1) := by decide +kernel
theorem dL_law_270 : decode cL_law 270 = .ok (.iadd, 1) := by decide +kernel
theorem dL_law_271 : decode cL_law 271 = .ok (.iaload, 1) := by decide +kernel
theorem dL_law_272 : decode cL_law 272 = .ok (.invokevirtual 39, 3) := by decide +kernel
theorem dL_law_275 : decode cL_law 275 = .ok (.if_icmp .eq 598, 3) := by decide +kernel
theorem dL_law_278 : decode cL_law 278 = .ok (.iconst 0, 1) := by decide +kernel
theorem dL_law_279 : decode cL_law 279 = .ok (.ireturn, 1) := by decide +kernel
theorem dL_law_280 : decode cL_law 280 = .ok (.aload_n 1, 1) := by decide +kernel
theorem dL_law_281 : decode cL_law 281 = .ok (.aload_n 0, 1) := by decide +kernel
theorem dL_law_282 : decode cL_law 282 = .ok (.iload_n 3, 1) := by decide +kernel
theorem dL_law_283 : decode cL_law 283 = .ok (.iconst 1, 1) := by decide +kernel
theorem dL_law_284 : decode cL_law 284 = .ok (.iadd, 1) := by decide +kernel
theorem dL_law_285 : decode cL_law 285 = .ok (.iaload, 1) := by decide +kernel
theorem dL_law_286 : decode cL_law 286 = .ok (.aload_n 0, 1) := by decide +kernel
theorem dL_law_287 : decode cL_law 287 = .ok (.iload_n 3, 1) := by decide +kernel
theorem dL_law_288 : decode cL_law 288 = .ok (.iconst 2, 1) := by decide +kernel
theorem dL_law_289 : decode cL_law 289 = .ok (.iadd, 1) := by decide +kernel
theorem dL_law_290 : decode cL_law 290 = .ok (.iaload, 1) := by decide +kernel
theorem dL_law_291 : decode cL_law 291 = .ok (.invokevirtual 40, 3) := by decide +kernel
theorem dL_law_294 : decode cL_law 294 = .ok (.aload_n 2, 1) := by decide +kernel
theorem dL_law_295 : decode cL_law 295 = .ok (.aload_n 0, 1) := by decide +kernel
theorem dL_law_296 : decode cL_law 296 = .ok (.iload_n 3, 1) := by decide +kernel
theorem dL_law_297 : decode cL_law 297 = .ok (.iconst 1, 1) := by decide +kernel
theorem dL_law_298 : decode cL_law 298 = .ok (.iadd, 1) := by decide +kernel
theorem dL_law_299 : decode cL_law 299 = .ok (.iaload, 1) := by decide +kernel
theorem dL_law_300 : decode cL_law 300 = .ok (.aload_n 0, 1) := by decide +kernel
theorem dL_law_301 : decode cL_law 301 = .ok (.iload_n 3, 1) := by decide +kernel
theorem dL_law_302 : decode cL_law 302 = .ok (.iconst 2, 1) := by decide +kernel
theorem dL_law_303 : decode cL_law 303 = .ok (.iadd, 1) := by decide +kernel
theorem dL_law_304 : decode cL_law 304 = .ok (.iaload, 1) := by decide +kernel
theorem dL_law_305 : decode cL_law 305 = .ok (.invokevirtual 43, 3) := by decide +kernel
theorem dL_law_308 : decode cL_law 308 = .ok (.if_icmp .eq 565, 3) := by decide +kernel
theorem dL_law_311 : decode cL_law 311 = .ok (.iconst 0, 1) := by decide +kernel
theorem dL_law_312 : decode cL_law 312 = .ok (.ireturn, 1) := by decide +kernel
theorem dL_law_313 : decode cL_law 313 = .ok (.aload_n 1, 1) := by decide +kernel
theorem dL_law_314 : decode cL_law 314 = .ok (.aload_n 0, 1) := by decide +kernel
theorem dL_law_315 : decode cL_law 315 = .ok (.iload_n 3, 1) := by decide +kernel
theorem dL_law_316 : decode cL_law 316 = .ok (.iconst 1, 1) := by decide +kernel
theorem dL_law_317 : decode cL_law 317 = .ok (.iadd, 1) := by decide +kernel
theorem dL_law_318 : decode cL_law 318 = .ok (.iaload, 1) := by decide +kernel
theorem dL_law_319 : decode cL_law 319 = .ok (.invokevirtual 44, 3) := by decide +kernel
theorem dL_law_322 : decode cL_law 322 = .ok (.aload_n 2, 1) := by decide +kernel
theorem dL_law_323 : decode cL_law 323 = .ok (.aload_n 0, 1) := by decide +kernel
theorem dL_law_324 : decode cL_law 324 = .ok (.iload_n 3, 1) := by decide +kernel
theorem dL_law_325 : decode cL_law 325 = .ok (.iconst 1, 1) := by decide +kernel
theorem dL_law_326 : decode cL_law 326 = .ok (.iadd, 1) := by decide +kernel
theorem dL_law_327 : decode cL_law 327 = .ok (.iaload, 1) := by decide +kernel
theorem dL_law_328 : decode cL_law 328 = .ok (.invokevirtual 47, 3) := by decide +kernel
theorem dL_law_331 : decode cL_law 331 = .ok (.if_icmp .eq 542, 3) := by decide +kernel
theorem dL_law_334 : decode cL_law 334 = .ok (.iconst 0, 1) := by decide +kernel
theorem dL_law_335 : decode cL_law 335 = .ok (.ireturn, 1) := by decide +kernel
theorem dL_law_336 : decode cL_law 336 = .ok (.aload_n 1, 1) := by decide +kernel
theorem dL_law_337 : decode cL_law 337 = .ok (.aload_n 0, 1) := by decide +kernel
theorem dL_law_338 : decode cL_law 338 = .ok (.iload_n 3, 1) := by decide +kernel
theorem dL_law_339 : decode cL_law 339 = .ok (.iconst 1, 1) := by decide +kernel
theorem dL_law_340 : decode cL_law 340 = .ok (.iadd, 1) := by decide +kernel
theorem dL_law_341 : decode cL_law 341 = .ok (.iaload, 1) := by decide +kernel
theorem dL_law_342 : decode cL_law 342 = .ok (.aload_n 0, 1) := by decide +kernel
theorem dL_law_343 : decode cL_law 343 = .ok (.iload_n 3, 1) := by decide +kernel
theorem dL_law_344 : decode cL_law 344 = .ok (.iconst 2, 1) := by decide +kernel
theorem dL_law_345 : decode cL_law 345 = .ok (.iadd, 1) := by decide +kernel
theorem dL_law_346 : decode cL_law 346 = .ok (.iaload, 1) := by decide +kernel
theorem dL_law_347 : decode cL_law 347 = .ok (.invokevirtual 48, 3) := by decide +kernel
theorem dL_law_350 : decode cL_law 350 = .ok (.aload_n 2, 1) := by decide +kernel
theorem dL_law_351 : decode cL_law 351 = .ok (.aload_n 0, 1) := by decide +kernel
theorem dL_law_352 : decode cL_law 352 = .ok (.iload_n 3, 1) := by decide +kernel
theorem dL_law_353 : decode cL_law 353 = .ok (.iconst 1, 1) := by decide +kernel
theorem dL_law_354 : decode cL_law 354 = .ok (.iadd, 1) := by decide +kernel
theorem dL_law_355 : decode cL_law 355 = .ok (.iaload, 1) := by decide +kernel
theorem dL_law_356 : decode cL_law 356 = .ok (.aload_n 0, 1) := by decide +kernel
theorem dL_law_357 : decode cL_law 357 = .ok (.iload_n 3, 1) := by decide +kernel
theorem dL_law_358 : decode cL_law 358 = .ok (.iconst 2, 1) := by decide +kernel
theorem dL_law_359 : decode cL_law 359 = .ok (.iadd, 1) := by decide +kernel
theorem dL_law_360 : decode cL_law 360 = .ok (.iaload, 1) := by decide +kernel
theorem dL_law_361 : decode cL_law 361 = .ok (.invokevirtual 51, 3) := by decide +kernel
theorem dL_law_364 : decode cL_law 364 = .ok (.if_icmp .eq 509, 3) := by decide +kernel
theorem dL_law_367 : decode cL_law 367 = .ok (.iconst 0, 1) := by decide +kernel
theorem dL_law_368 : decode cL_law 368 = .ok (.ireturn, 1) := by decide +kernel
theorem dL_law_369 : decode cL_law 369 = .ok (.aload_n 1, 1) := by decide +kernel
theorem dL_law_370 : decode cL_law 370 = .ok (.aload_n 0, 1) := by decide +kernel
theorem dL_law_371 : decode cL_law 371 = .ok (.iload_n 3, 1) := by decide +kernel
theorem dL_law_372 : decode cL_law 372 = .ok (.iconst 1, 1) := by decide +kernel
theorem dL_law_373 : decode cL_law 373 = .ok (.iadd, 1) := by decide +kernel
theorem dL_law_374 : decode cL_law 374 = .ok (.iaload, 1) := by decide +kernel
theorem dL_law_375 : decode cL_law 375 = .ok (.invokevirtual 52, 3) := by decide +kernel
theorem dL_law_378 : decode cL_law 378 = .ok (.aload_n 2, 1) := by decide +kernel
theorem dL_law_379 : decode cL_law 379 = .ok (.aload_n 0, 1) := by decide +kernel
theorem dL_law_380 : decode cL_law 380 = .ok (.iload_n 3, 1) := by decide +kernel
theorem dL_law_381 : decode cL_law 381 = .ok (.iconst 1, 1) := by decide +kernel
theorem dL_law_382 : decode cL_law 382 = .ok (.iadd, 1) := by decide +kernel
theorem dL_law_383 : decode cL_law 383 = .ok (.iaload, 1) := by decide +kernel
theorem dL_law_384 : decode cL_law 384 = .ok (.invokevirtual 55, 3) := by decide +kernel
theorem dL_law_387 : decode cL_law 387 = .ok (.if_icmp .eq 486, 3) := by decide +kernel
theorem dL_law_390 : decode cL_law 390 = .ok (.iconst 0, 1) := by decide +kernel
theorem dL_law_391 : decode cL_law 391 = .ok (.ireturn, 1) := by decide +kernel
theorem dL_law_392 : decode cL_law 392 = .ok (.aload_n 1, 1) := by decide +kernel
theorem dL_law_393 : decode cL_law 393 = .ok (.invokevirtual 56, 3) := by decide +kernel
theorem dL_law_396 : decode cL_law 396 = .ok (.aload_n 2, 1) := by decide +kernel
theorem dL_law_397 : decode cL_law 397 = .ok (.invokevirtual 59, 3) := by decide +kernel
theorem dL_law_400 : decode cL_law 400 = .ok (.if_icmp .eq 473, 3) := by decide +kernel
theorem dL_law_403 : decode cL_law 403 = .ok (.iconst 0, 1) := by decide +kernel
theorem dL_law_404 : decode cL_law 404 = .ok (.ireturn, 1) := by decide +kernel
theorem dL_law_405 : decode cL_law 405 = .ok (.aload_n 1, 1) := by decide +kernel
theorem dL_law_406 : decode cL_law 406 = .ok (.aload_n 0, 1) := by decide +kernel
theorem dL_law_407 : decode cL_law 407 = .ok (.iload_n 3, 1) := by decide +kernel
theorem dL_law_408 : decode cL_law 408 = .ok (.iconst 1, 1) := by decide +kernel
theorem dL_law_409 : decode cL_law 409 = .ok (.iadd, 1) := by decide +kernel
theorem dL_law_410 : decode cL_law 410 = .ok (.iaload, 1) := by decide +kernel
theorem dL_law_411 : decode cL_law 411 = .ok (.aload_n 0, 1) := by decide +kernel
theorem dL_law_412 : decode cL_law 412 = .ok (.iload_n 3, 1) := by decide +kernel
theorem dL_law_413 : decode cL_law 413 = .ok (.iconst 2, 1) := by decide +kernel
theorem dL_law_414 : decode cL_law 414 = .ok (.iadd, 1) := by decide +kernel
theorem dL_law_415 : decode cL_law 415 = .ok (.iaload, 1) := by decide +kernel
theorem dL_law_416 : decode cL_law 416 = .ok (.invokevirtual 60, 3) := by decide +kernel
theorem dL_law_419 : decode cL_law 419 = .ok (.aload_n 2, 1) := by decide +kernel
theorem dL_law_420 : decode cL_law 420 = .ok (.aload_n 0, 1) := by decide +kernel
theorem dL_law_421 : decode cL_law 421 = .ok (.iload_n 3, 1) := by decide +kernel
theorem dL_law_422 : decode cL_law 422 = .ok (.iconst 1, 1) := by decide +kernel
theorem dL_law_423 : decode cL_law 423 = .ok (.iadd, 1) := by decide +kernel
theorem dL_law_424 : decode cL_law 424 = .ok (.iaload, 1) := by decide +kernel
theorem dL_law_425 : decode cL_law 425 = .ok (.aload_n 0, 1) := by decide +kernel
theorem dL_law_426 : decode cL_law 426 = .ok (.iload_n 3, 1) := by decide +kernel
theorem dL_law_427 : decode cL_law 427 = .ok (.iconst 2, 1) := by decide +kernel
theorem dL_law_428 : decode cL_law 428 = .ok (.iadd, 1) := by decide +kernel
theorem dL_law_429 : decode cL_law 429 = .ok (.iaload, 1) := by decide +kernel
theorem dL_law_430 : decode cL_law 430 = .ok (.invokevirtual 63, 3) := by decide +kernel
theorem dL_law_433 : decode cL_law 433 = .ok (.if_icmp .eq 440, 3) := by decide +kernel
theorem dL_law_436 : decode cL_law 436 = .ok (.iconst 0, 1) := by decide +kernel
theorem dL_law_437 : decode cL_law 437 = .ok (.ireturn, 1) := by decide +kernel
theorem dL_law_438 : decode cL_law 438 = .ok (.aload_n 1, 1) := by decide +kernel
theorem dL_law_439 : decode cL_law 439 = .ok (.aload_n 0, 1) := by decide +kernel
theorem dL_law_440 : decode cL_law 440 = .ok (.iload_n 3, 1) := by decide +kernel
theorem dL_law_441 : decode cL_law 441 = .ok (.iconst 1, 1) := by decide +kernel
theorem dL_law_442 : decode cL_law 442 = .ok (.iadd, 1) := by decide +kernel
theorem dL_law_443 : decode cL_law 443 = .ok (.iaload, 1) := by decide +kernel
theorem dL_law_444 : decode cL_law 444 = .ok (.aload_n 0, 1) := by decide +kernel
theorem dL_law_445 : decode cL_law 445 = .ok (.iload_n 3, 1) := by decide +kernel
theorem dL_law_446 : decode cL_law 446 = .ok (.iconst 2, 1) := by decide +kernel
theorem dL_law_447 : decode cL_law 447 = .ok (.iadd, 1) := by decide +kernel
theorem dL_law_448 : decode cL_law 448 = .ok (.iaload, 1) := by decide +kernel
theorem dL_law_449 : decode cL_law 449 = .ok (.invokevirtual 64, 3) := by decide +kernel
theorem dL_law_452 : decode cL_law 452 = .ok (.aload_n 2, 1) := by decide +kernel
theorem dL_law_453 : decode cL_law 453 = .ok (.aload_n 0, 1) := by decide +kernel
theorem dL_law_454 : decode cL_law 454 = .ok (.iload_n 3, 1) := by decide +kernel
theorem dL_law_455 : decode cL_law 455 = .ok (.iconst 1, 1) := by decide +kernel
theorem dL_law_456 : decode cL_law 456 = .ok (.iadd, 1) := by decide +kernel
theorem dL_law_457 : decode cL_law 457 = .ok (.iaload, 1) := by decide +kernel
theorem dL_law_458 : decode cL_law 458 = .ok (.aload_n 0, 1) := by decide +kernel
theorem dL_law_459 : decode cL_law 459 = .ok (.iload_n 3, 1) := by decide +kernel
theorem dL_law_460 : decode cL_law 460 = .ok (.iconst 2, 1) := by decide +kernel
theorem dL_law_461 : decode cL_law 461 = .ok (.iadd, 1) := by decide +kernel
theorem dL_law_462 : decode cL_law 462 = .ok (.iaload, 1) := by decide +kernel
theorem dL_law_463 : decode cL_law 463 = .ok (.invokevirtual 67, 3) := by decide +kernel
theorem dL_law_466 : decode cL_law 466 = .ok (.if_icmp .eq 407, 3) := by decide +kernel
theorem dL_law_469 : decode cL_law 469 = .ok (.iconst 0, 1) := by decide +kernel
theorem dL_law_470 : decode cL_law 470 = .ok (.ireturn, 1) := by decide +kernel
theorem dL_law_471 : decode cL_law 471 = .ok (.aload_n 1, 1) := by decide +kernel
theorem dL_law_472 : decode cL_law 472 = .ok (.aload_n 0, 1) := by decide +kernel
theorem dL_law_473 : decode cL_law 473 = .ok (.iload_n 3, 1) := by decide +kernel
theorem dL_law_474 : decode cL_law 474 = .ok (.iconst 1, 1) := by decide +kernel
theorem dL_law_475 : decode cL_law 475 = .ok (.iadd, 1) := by decide +kernel
theorem dL_law_476 : decode cL_law 476 = .ok (.iaload, 1) := by decide +kernel
theorem dL_law_477 : decode cL_law 477 = .ok (.aload_n 0, 1) := by decide +kernel
theorem dL_law_478 : decode cL_law 478 = .ok (.iload_n 3, 1) := by decide +kernel
theorem dL_law_479 : decode cL_law 479 = .ok (.iconst 2, 1) := by decide +kernel
theorem dL_law_480 : decode cL_law 480 = .ok (.iadd, 1) := by decide +kernel
theorem dL_law_481 : decode cL_law 481 = .ok (.iaload, 1) := by decide +kernel
theorem dL_law_482 : decode cL_law 482 = .ok (.invokevirtual 68, 3) := by decide +kernel
theorem dL_law_485 : decode cL_law 485 = .ok (.aload_n 2, 1) := by decide +kernel
theorem dL_law_486 : decode cL_law 486 = .ok (.aload_n 0, 1) := by decide +kernel
theorem dL_law_487 : decode cL_law 487 = .ok (.iload_n 3, 1) := by decide +kernel
theorem dL_law_488 : decode cL_law 488 = .ok (.iconst 1, 1) := by decide +kernel
theorem dL_law_489 : decode cL_law 489 = .ok (.iadd, 1) := by decide +kernel
theorem dL_law_490 : decode cL_law 490 = .ok (.iaload, 1) := by decide +kernel
theorem dL_law_491 : decode cL_law 491 = .ok (.aload_n 0, 1) := by decide +kernel
theorem dL_law_492 : decode cL_law 492 = .ok (.iload_n 3, 1) := by decide +kernel
theorem dL_law_493 : decode cL_law 493 = .ok (.iconst 2, 1) := by decide +kernel
theorem dL_law_494 : decode cL_law 494 = .ok (.iadd, 1) := by decide +kernel
theorem dL_law_495 : decode cL_law 495 = .ok (.iaload, 1) := by decide +kernel
theorem dL_law_496 : decode cL_law 496 = .ok (.invokevirtual 71, 3) := by decide +kernel
theorem dL_law_499 : decode cL_law 499 = .ok (.if_icmp .eq 374, 3) := by decide +kernel
theorem dL_law_502 : decode cL_law 502 = .ok (.iconst 0, 1) := by decide +kernel
theorem dL_law_503 : decode cL_law 503 = .ok (.ireturn, 1) := by decide +kernel
theorem dL_law_504 : decode cL_law 504 = .ok (.aload_n 1, 1) := by decide +kernel
theorem dL_law_505 : decode cL_law 505 = .ok (.aload_n 0, 1) := by decide +kernel
theorem dL_law_506 : decode cL_law 506 = .ok (.iload_n 3, 1) := by decide +kernel
theorem dL_law_507 : decode cL_law 507 = .ok (.iconst 1, 1) := by decide +kernel
theorem dL_law_508 : decode cL_law 508 = .ok (.iadd, 1) := by decide +kernel
theorem dL_law_509 : decode cL_law 509 = .ok (.iaload, 1) := by decide +kernel
theorem dL_law_510 : decode cL_law 510 = .ok (.invokevirtual 72, 3) := by decide +kernel
theorem dL_law_513 : decode cL_law 513 = .ok (.aload_n 2, 1) := by decide +kernel
theorem dL_law_514 : decode cL_law 514 = .ok (.aload_n 0, 1) := by decide +kernel
theorem dL_law_515 : decode cL_law 515 = .ok (.iload_n 3, 1) := by decide +kernel
theorem dL_law_516 : decode cL_law 516 = .ok (.iconst 1, 1) := by decide +kernel
theorem dL_law_517 : decode cL_law 517 = .ok (.iadd, 1) := by decide +kernel
theorem dL_law_518 : decode cL_law 518 = .ok (.iaload, 1) := by decide +kernel
theorem dL_law_519 : decode cL_law 519 = .ok (.invokevirtual 75, 3) := by decide +kernel
theorem dL_law_522 : decode cL_law 522 = .ok (.if_icmp .eq 351, 3) := by decide +kernel
theorem dL_law_525 : decode cL_law 525 = .ok (.iconst 0, 1) := by decide +kernel
theorem dL_law_526 : decode cL_law 526 = .ok (.ireturn, 1) := by decide +kernel
theorem dL_law_527 : decode cL_law 527 = .ok (.aload_n 1, 1) := by decide +kernel
theorem dL_law_528 : decode cL_law 528 = .ok (.aload_n 0, 1) := by decide +kernel
theorem dL_law_529 : decode cL_law 529 = .ok (.iload_n 3, 1) := by decide +kernel
theorem dL_law_530 : decode cL_law 530 = .ok (.iconst 1, 1) := by decide +kernel
theorem dL_law_531 : decode cL_law 531 = .ok (.iadd, 1) := by decide +kernel
theorem dL_law_532 : decode cL_law 532 = .ok (.iaload, 1) := by decide +kernel
theorem dL_law_533 : decode cL_law 533 = .ok (.aload_n 0, 1) := by decide +kernel
theorem dL_law_534 : decode cL_law 534 = .ok (.iload_n 3, 1) := by decide +kernel
theorem dL_law_535 : decode cL_law 535 = .ok (.iconst 2, 1) := by decide +kernel
theorem dL_law_536 : decode cL_law 536 = .ok (.iadd, 1) := by decide +kernel
theorem dL_law_537 : decode cL_law 537 = .ok (.iaload, 1) := by decide +kernel
theorem dL_law_538 : decode cL_law 538 = .ok (.aload_n 0, 1) := by decide +kernel
theorem dL_law_539 : decode cL_law 539 = .ok (.iload_n 3, 1) := by decide +kernel
theorem dL_law_540 : decode cL_law 540 = .ok (.iconst 3, 1) := by decide +kernel
theorem dL_law_541 : decode cL_law 541 = .ok (.iadd, 1) := by decide +kernel
theorem dL_law_542 : decode cL_law 542 = .ok (.iaload, 1) := by decide +kernel
theorem dL_law_543 : decode cL_law 543 = .ok (.invokevirtual 76, 3) := by decide +kernel
theorem dL_law_546 : decode cL_law 546 = .ok (.aload_n 2, 1) := by decide +kernel
theorem dL_law_547 : decode cL_law 547 = .ok (.aload_n 0, 1) := by decide +kernel
theorem dL_law_548 : decode cL_law 548 = .ok (.iload_n 3, 1) := by decide +kernel
theorem dL_law_549 : decode cL_law 549 = .ok (.iconst 1, 1) := by decide +kernel
theorem dL_law_550 : decode cL_law 550 = .ok (.iadd, 1) := by decide +kernel
theorem dL_law_551 : decode cL_law 551 = .ok (.iaload, 1) := by decide +kernel
theorem dL_law_552 : decode cL_law 552 = .ok (.aload_n 0, 1) := by decide +kernel
theorem dL_law_553 : decode cL_law 553 = .ok (.iload_n 3, 1) := by decide +kernel
theorem dL_law_554 : decode cL_law 554 = .ok (.iconst 2, 1) := by decide +kernel
theorem dL_law_555 : decode cL_law 555 = .ok (.iadd, 1) := by decide +kernel
theorem dL_law_556 : decode cL_law 556 = .ok (.iaload, 1) := by decide +kernel
theorem dL_law_557 : decode cL_law 557 = .ok (.aload_n 0, 1) := by decide +kernel
theorem dL_law_558 : decode cL_law 558 = .ok (.iload_n 3, 1) := by decide +kernel
theorem dL_law_559 : decode cL_law 559 = .ok (.iconst 3, 1) := by decide +kernel
theorem dL_law_560 : decode cL_law 560 = .ok (.iadd, 1) := by decide +kernel
theorem dL_law_561 : decode cL_law 561 = .ok (.iaload, 1) := by decide +kernel
theorem dL_law_562 : decode cL_law 562 = .ok (.invokevirtual 80, 3) := by decide +kernel
theorem dL_law_565 : decode cL_law 565 = .ok (.lcmp, 1) := by decide +kernel
theorem dL_law_566 : decode cL_law 566 = .ok (.ifCond .eq 307, 3) := by decide +kernel
theorem dL_law_569 : decode cL_law 569 = .ok (.iconst 0, 1) := by decide +kernel
theorem dL_law_570 : decode cL_law 570 = .ok (.ireturn, 1) := by decide +kernel
theorem dL_law_571 : decode cL_law 571 = .ok (.aload_n 1, 1) := by decide +kernel
theorem dL_law_572 : decode cL_law 572 = .ok (.aload_n 0, 1) := by decide +kernel
theorem dL_law_573 : decode cL_law 573 = .ok (.iload_n 3, 1) := by decide +kernel
theorem dL_law_574 : decode cL_law 574 = .ok (.iconst 1, 1) := by decide +kernel
theorem dL_law_575 : decode cL_law 575 = .ok (.iadd, 1) := by decide +kernel
theorem dL_law_576 : decode cL_law 576 = .ok (.iaload, 1) := by decide +kernel
theorem dL_law_577 : decode cL_law 577 = .ok (.aload_n 0, 1) := by decide +kernel
theorem dL_law_578 : decode cL_law 578 = .ok (.iload_n 3, 1) := by decide +kernel
theorem dL_law_579 : decode cL_law 579 = .ok (.iconst 2, 1) := by decide +kernel
theorem dL_law_580 : decode cL_law 580 = .ok (.iadd, 1) := by decide +kernel
theorem dL_law_581 : decode cL_law 581 = .ok (.iaload, 1) := by decide +kernel
theorem dL_law_582 : decode cL_law 582 = .ok (.invokevirtual 81, 3) := by decide +kernel
theorem dL_law_585 : decode cL_law 585 = .ok (.aload_n 2, 1) := by decide +kernel
theorem dL_law_586 : decode cL_law 586 = .ok (.aload_n 0, 1) := by decide +kernel
theorem dL_law_587 : decode cL_law 587 = .ok (.iload_n 3, 1) := by decide +kernel
theorem dL_law_588 : decode cL_law 588 = .ok (.iconst 1, 1) := by decide +kernel
theorem dL_law_589 : decode cL_law 589 = .ok (.iadd, 1) := by decide +kernel
theorem dL_law_590 : decode cL_law 590 = .ok (.iaload, 1) := by decide +kernel
theorem dL_law_591 : decode cL_law 591 = .ok (.aload_n 0, 1) := by decide +kernel
theorem dL_law_592 : decode cL_law 592 = .ok (.iload_n 3, 1) := by decide +kernel
theorem dL_law_593 : decode cL_law 593 = .ok (.iconst 2, 1) := by decide +kernel
theorem dL_law_594 : decode cL_law 594 = .ok (.iadd, 1) := by decide +kernel
theorem dL_law_595 : decode cL_law 595 = .ok (.iaload, 1) := by decide +kernel
theorem dL_law_596 : decode cL_law 596 = .ok (.invokevirtual 85, 3) := by decide +kernel
theorem dL_law_599 : decode cL_law 599 = .ok (.lcmp, 1) := by decide +kernel
theorem dL_law_600 : decode cL_law 600 = .ok (.ifCond .eq 273, 3) := by decide +kernel
theorem dL_law_603 : decode cL_law 603 = .ok (.iconst 0, 1) := by decide +kernel
theorem dL_law_604 : decode cL_law 604 = .ok (.ireturn, 1) := by decide +kernel
theorem dL_law_605 : decode cL_law 605 = .ok (.aload_n 1, 1) := by decide +kernel
theorem dL_law_606 : decode cL_law 606 = .ok (.aload_n 0, 1) := by decide +kernel
theorem dL_law_607 : decode cL_law 607 = .ok (.iload_n 3, 1) := by decide +kernel
theorem dL_law_608 : decode cL_law 608 = .ok (.iconst 1, 1) := by decide +kernel
theorem dL_law_609 : decode cL_law 609 = .ok (.iadd, 1) := by decide +kernel
theorem dL_law_610 : decode cL_law 610 = .ok (.iaload, 1) := by decide +kernel
theorem dL_law_611 : decode cL_law 611 = .ok (.invokevirtual 86, 3) := by decide +kernel
theorem dL_law_614 : decode cL_law 614 = .ok (.aload_n 2, 1) := by decide +kernel
theorem dL_law_615 : decode cL_law 615 = .ok (.aload_n 0, 1) := by decide +kernel
theorem dL_law_616 : decode cL_law 616 = .ok (.iload_n 3, 1) := by decide +kernel
theorem dL_law_617 : decode cL_law 617 = .ok (.iconst 1, 1) := by decide +kernel
theorem dL_law_618 : decode cL_law 618 = .ok (.iadd, 1) := by decide +kernel
theorem dL_law_619 : decode cL_law 619 = .ok (.iaload, 1) := by decide +kernel
theorem dL_law_620 : decode cL_law 620 = .ok (.invokevirtual 90, 3) := by decide +kernel
theorem dL_law_623 : decode cL_law 623 = .ok (.lcmp, 1) := by decide +kernel
theorem dL_law_624 : decode cL_law 624 = .ok (.ifCond .eq 249, 3) := by decide +kernel
theorem dL_law_627 : decode cL_law 627 = .ok (.iconst 0, 1) := by decide +kernel
theorem dL_law_628 : decode cL_law 628 = .ok (.ireturn, 1) := by decide +kernel
theorem dL_law_629 : decode cL_law 629 = .ok (.aload_n 1, 1) := by decide +kernel
theorem dL_law_630 : decode cL_law 630 = .ok (.aload_n 0, 1) := by decide +kernel
theorem dL_law_631 : decode cL_law 631 = .ok (.iload_n 3, 1) := by decide +kernel
theorem dL_law_632 : decode cL_law 632 = .ok (.iconst 1, 1) := by decide +kernel
theorem dL_law_633 : decode cL_law 633 = .ok (.iadd, 1) := by decide +kernel
theorem dL_law_634 : decode cL_law 634 = .ok (.iaload, 1) := by decide +kernel
theorem dL_law_635 : decode cL_law 635 = .ok (.aload_n 0, 1) := by decide +kernel
theorem dL_law_636 : decode cL_law 636 = .ok (.iload_n 3, 1) := by decide +kernel
theorem dL_law_637 : decode cL_law 637 = .ok (.iconst 2, 1) := by decide +kernel
theorem dL_law_638 : decode cL_law 638 = .ok (.iadd, 1) := by decide +kernel
theorem dL_law_639 : decode cL_law 639 = .ok (.iaload, 1) := by decide +kernel
theorem dL_law_640 : decode cL_law 640 = .ok (.invokevirtual 91, 3) := by decide +kernel
theorem dL_law_643 : decode cL_law 643 = .ok (.aload_n 2, 1) := by decide +kernel
theorem dL_law_644 : decode cL_law 644 = .ok (.aload_n 0, 1) := by decide +kernel
theorem dL_law_645 : decode cL_law 645 = .ok (.iload_n 3, 1) := by decide +kernel
theorem dL_law_646 : decode cL_law 646 = .ok (.iconst 1, 1) := by decide +kernel
theorem dL_law_647 : decode cL_law 647 = .ok (.iadd, 1) := by decide +kernel
theorem dL_law_648 : decode cL_law 648 = .ok (.iaload, 1) := by decide +kernel
theorem dL_law_649 : decode cL_law 649 = .ok (.aload_n 0, 1) := by decide +kernel
theorem dL_law_650 : decode cL_law 650 = .ok (.iload_n 3, 1) := by decide +kernel
theorem dL_law_651 : decode cL_law 651 = .ok (.iconst 2, 1) := by decide +kernel
theorem dL_law_652 : decode cL_law 652 = .ok (.iadd, 1) := by decide +kernel
theorem dL_law_653 : decode cL_law 653 = .ok (.iaload, 1) := by decide +kernel
theorem dL_law_654 : decode cL_law 654 = .ok (.invokevirtual 94, 3) := by decide +kernel
theorem dL_law_657 : decode cL_law 657 = .ok (.if_icmp .eq 216, 3) := by decide +kernel
theorem dL_law_660 : decode cL_law 660 = .ok (.iconst 0, 1) := by decide +kernel
theorem dL_law_661 : decode cL_law 661 = .ok (.ireturn, 1) := by decide +kernel
theorem dL_law_662 : decode cL_law 662 = .ok (.aload_n 1, 1) := by decide +kernel
theorem dL_law_663 : decode cL_law 663 = .ok (.aload_n 0, 1) := by decide +kernel
theorem dL_law_664 : decode cL_law 664 = .ok (.iload_n 3, 1) := by decide +kernel
theorem dL_law_665 : decode cL_law 665 = .ok (.iconst 1, 1) := by decide +kernel
theorem dL_law_666 : decode cL_law 666 = .ok (.iadd, 1) := by decide +kernel
theorem dL_law_667 : decode cL_law 667 = .ok (.iaload, 1) := by decide +kernel
theorem dL_law_668 : decode cL_law 668 = .ok (.aload_n 0, 1) := by decide +kernel
theorem dL_law_669 : decode cL_law 669 = .ok (.iload_n 3, 1) := by decide +kernel
theorem dL_law_670 : decode cL_law 670 = .ok (.iconst 2, 1) := by decide +kernel
theorem dL_law_671 : decode cL_law 671 = .ok (.iadd, 1) := by decide +kernel
theorem dL_law_672 : decode cL_law 672 = .ok (.iaload, 1) := by decide +kernel
theorem dL_law_673 : decode cL_law 673 = .ok (.invokevirtual 95, 3) := by decide +kernel
theorem dL_law_676 : decode cL_law 676 = .ok (.aload_n 2, 1) := by decide +kernel
theorem dL_law_677 : decode cL_law 677 = .ok (.aload_n 0, 1) := by decide +kernel
theorem dL_law_678 : decode cL_law 678 = .ok (.iload_n 3, 1) := by decide +kernel
theorem dL_law_679 : decode cL_law 679 = .ok (.iconst 1, 1) := by decide +kernel
theorem dL_law_680 : decode cL_law 680 = .ok (.iadd, 1) := by decide +kernel
theorem dL_law_681 : decode cL_law 681 = .ok (.iaload, 1) := by decide +kernel
theorem dL_law_682 : decode cL_law 682 = .ok (.aload_n 0, 1) := by decide +kernel
theorem dL_law_683 : decode cL_law 683 = .ok (.iload_n 3, 1) := by decide +kernel
theorem dL_law_684 : decode cL_law 684 = .ok (.iconst 2, 1) := by decide +kernel
theorem dL_law_685 : decode cL_law 685 = .ok (.iadd, 1) := by decide +kernel
theorem dL_law_686 : decode cL_law 686 = .ok (.iaload, 1) := by decide +kernel
theorem dL_law_687 : decode cL_law 687 = .ok (.invokevirtual 98, 3) := by decide +kernel
theorem dL_law_690 : decode cL_law 690 = .ok (.if_icmp .eq 183, 3) := by decide +kernel
theorem dL_law_693 : decode cL_law 693 = .ok (.iconst 0, 1) := by decide +kernel
theorem dL_law_694 : decode cL_law 694 = .ok (.ireturn, 1) := by decide +kernel
theorem dL_law_695 : decode cL_law 695 = .ok (.aload_n 1, 1) := by decide +kernel
theorem dL_law_696 : decode cL_law 696 = .ok (.aload_n 0, 1) := by decide +kernel
theorem dL_law_697 : decode cL_law 697 = .ok (.iload_n 3, 1) := by decide +kernel
theorem dL_law_698 : decode cL_law 698 = .ok (.iconst 1, 1) := by decide +kernel
theorem dL_law_699 : decode cL_law 699 = .ok (.iadd, 1) := by decide +kernel
theorem dL_law_700 : decode cL_law 700 = .ok (.iaload, 1) := by decide +kernel
theorem dL_law_701 : decode cL_law 701 = .ok (.aload_n 0, 1) := by decide +kernel
theorem dL_law_702 : decode cL_law 702 = .ok (.iload_n 3, 1) := by decide +kernel
theorem dL_law_703 : decode cL_law 703 = .ok (.iconst 2, 1) := by decide +kernel
theorem dL_law_704 : decode cL_law 704 = .ok (.iadd, 1) := by decide +kernel
theorem dL_law_705 : decode cL_law 705 = .ok (.iaload, 1) := by decide +kernel
theorem dL_law_706 : decode cL_law 706 = .ok (.invokevirtual 99, 3) := by decide +kernel
theorem dL_law_709 : decode cL_law 709 = .ok (.aload_n 2, 1) := by decide +kernel
theorem dL_law_710 : decode cL_law 710 = .ok (.aload_n 0, 1) := by decide +kernel
theorem dL_law_711 : decode cL_law 711 = .ok (.iload_n 3, 1) := by decide +kernel
theorem dL_law_712 : decode cL_law 712 = .ok (.iconst 1, 1) := by decide +kernel
theorem dL_law_713 : decode cL_law 713 = .ok (.iadd, 1) := by decide +kernel
theorem dL_law_714 : decode cL_law 714 = .ok (.iaload, 1) := by decide +kernel
theorem dL_law_715 : decode cL_law 715 = .ok (.aload_n 0, 1) := by decide +kernel
theorem dL_law_716 : decode cL_law 716 = .ok (.iload_n 3, 1) := by decide +kernel
theorem dL_law_717 : decode cL_law 717 = .ok (.iconst 2, 1) := by decide +kernel
theorem dL_law_718 : decode cL_law 718 = .ok (.iadd, 1) := by decide +kernel
theorem dL_law_719 : decode cL_law 719 = .ok (.iaload, 1) := by decide +kernel
theorem dL_law_720 : decode cL_law 720 = .ok (.invokevirtual 102, 3) := by decide +kernel
theorem dL_law_723 : decode cL_law 723 = .ok (.if_icmp .eq 150, 3) := by decide +kernel
theorem dL_law_726 : decode cL_law 726 = .ok (.iconst 0, 1) := by decide +kernel
theorem dL_law_727 : decode cL_law 727 = .ok (.ireturn, 1) := by decide +kernel
theorem dL_law_728 : decode cL_law 728 = .ok (.aload_n 1, 1) := by decide +kernel
theorem dL_law_729 : decode cL_law 729 = .ok (.aload_n 0, 1) := by decide +kernel
theorem dL_law_730 : decode cL_law 730 = .ok (.iload_n 3, 1) := by decide +kernel
theorem dL_law_731 : decode cL_law 731 = .ok (.iconst 1, 1) := by decide +kernel
theorem dL_law_732 : decode cL_law 732 = .ok (.iadd, 1) := by decide +kernel
theorem dL_law_733 : decode cL_law 733 = .ok (.iaload, 1) := by decide +kernel
theorem dL_law_734 : decode cL_law 734 = .ok (.invokevirtual 103, 3) := by decide +kernel
theorem dL_law_737 : decode cL_law 737 = .ok (.aload_n 2, 1) := by decide +kernel
theorem dL_law_738 : decode cL_law 738 = .ok (.aload_n 0, 1) := by decide +kernel
theorem dL_law_739 : decode cL_law 739 = .ok (.iload_n 3, 1) := by decide +kernel
theorem dL_law_740 : decode cL_law 740 = .ok (.iconst 1, 1) := by decide +kernel
theorem dL_law_741 : decode cL_law 741 = .ok (.iadd, 1) := by decide +kernel
theorem dL_law_742 : decode cL_law 742 = .ok (.iaload, 1) := by decide +kernel
theorem dL_law_743 : decode cL_law 743 = .ok (.invokevirtual 106, 3) := by decide +kernel
theorem dL_law_746 : decode cL_law 746 = .ok (.if_icmp .eq 127, 3) := by decide +kernel
theorem dL_law_749 : decode cL_law 749 = .ok (.iconst 0, 1) := by decide +kernel
theorem dL_law_750 : decode cL_law 750 = .ok (.ireturn, 1) := by decide +kernel
theorem dL_law_751 : decode cL_law 751 = .ok (.aload_n 1, 1) := by decide +kernel
theorem dL_law_752 : decode cL_law 752 = .ok (.aload_n 0, 1) := by decide +kernel
theorem dL_law_753 : decode cL_law 753 = .ok (.iload_n 3, 1) := by decide +kernel
theorem dL_law_754 : decode cL_law 754 = .ok (.iconst 1, 1) := by decide +kernel
theorem dL_law_755 : decode cL_law 755 = .ok (.iadd, 1) := by decide +kernel
theorem dL_law_756 : decode cL_law 756 = .ok (.iaload, 1) := by decide +kernel
theorem dL_law_757 : decode cL_law 757 = .ok (.aload_n 0, 1) := by decide +kernel
theorem dL_law_758 : decode cL_law 758 = .ok (.iload_n 3, 1) := by decide +kernel
theorem dL_law_759 : decode cL_law 759 = .ok (.iconst 2, 1) := by decide +kernel
theorem dL_law_760 : decode cL_law 760 = .ok (.iadd, 1) := by decide +kernel
theorem dL_law_761 : decode cL_law 761 = .ok (.iaload, 1) := by decide +kernel
theorem dL_law_762 : decode cL_law 762 = .ok (.aload_n 0, 1) := by decide +kernel
theorem dL_law_763 : decode cL_law 763 = .ok (.iload_n 3, 1) := by decide +kernel
theorem dL_law_764 : decode cL_law 764 = .ok (.iconst 3, 1) := by decide +kernel
theorem dL_law_765 : decode cL_law 765 = .ok (.iadd, 1) := by decide +kernel
theorem dL_law_766 : decode cL_law 766 = .ok (.iaload, 1) := by decide +kernel
theorem dL_law_767 : decode cL_law 767 = .ok (.invokevirtual 107, 3) := by decide +kernel
theorem dL_law_770 : decode cL_law 770 = .ok (.aload_n 2, 1) := by decide +kernel
theorem dL_law_771 : decode cL_law 771 = .ok (.aload_n 0, 1) := by decide +kernel
theorem dL_law_772 : decode cL_law 772 = .ok (.iload_n 3, 1) := by decide +kernel
theorem dL_law_773 : decode cL_law 773 = .ok (.iconst 1, 1) := by decide +kernel
theorem dL_law_774 : decode cL_law 774 = .ok (.iadd, 1) := by decide +kernel
theorem dL_law_775 : decode cL_law 775 = .ok (.iaload, 1) := by decide +kernel
theorem dL_law_776 : decode cL_law 776 = .ok (.aload_n 0, 1) := by decide +kernel
theorem dL_law_777 : decode cL_law 777 = .ok (.iload_n 3, 1) := by decide +kernel
theorem dL_law_778 : decode cL_law 778 = .ok (.iconst 2, 1) := by decide +kernel
theorem dL_law_779 : decode cL_law 779 = .ok (.iadd, 1) := by decide +kernel
theorem dL_law_780 : decode cL_law 780 = .ok (.iaload, 1) := by decide +kernel
theorem dL_law_781 : decode cL_law 781 = .ok (.aload_n 0, 1) := by decide +kernel
theorem dL_law_782 : decode cL_law 782 = .ok (.iload_n 3, 1) := by decide +kernel
theorem dL_law_783 : decode cL_law 783 = .ok (.iconst 3, 1) := by decide +kernel
theorem dL_law_784 : decode cL_law 784 = .ok (.iadd, 1) := by decide +kernel
theorem dL_law_785 : decode cL_law 785 = .ok (.iaload, 1) := by decide +kernel
theorem dL_law_786 : decode cL_law 786 = .ok (.invokevirtual 111, 3) := by decide +kernel
theorem dL_law_789 : decode cL_law 789 = .ok (.if_icmp .eq 84, 3) := by decide +kernel
theorem dL_law_792 : decode cL_law 792 = .ok (.iconst 0, 1) := by decide +kernel
theorem dL_law_793 : decode cL_law 793 = .ok (.ireturn, 1) := by decide +kernel
theorem dL_law_794 : decode cL_law 794 = .ok (.aload_n 1, 1) := by decide +kernel
theorem dL_law_795 : decode cL_law 795 = .ok (.aload_n 0, 1) := by decide +kernel
theorem dL_law_796 : decode cL_law 796 = .ok (.iload_n 3, 1) := by decide +kernel
theorem dL_law_797 : decode cL_law 797 = .ok (.iconst 1, 1) := by decide +kernel
theorem dL_law_798 : decode cL_law 798 = .ok (.iadd, 1) := by decide +kernel
theorem dL_law_799 : decode cL_law 799 = .ok (.iaload, 1) := by decide +kernel
theorem dL_law_800 : decode cL_law 800 = .ok (.invokevirtual 112, 3) := by decide +kernel
theorem dL_law_803 : decode cL_law 803 = .ok (.aload_n 2, 1) := by decide +kernel
theorem dL_law_804 : decode cL_law 804 = .ok (.aload_n 0, 1) := by decide +kernel
theorem dL_law_805 : decode cL_law 805 = .ok (.iload_n 3, 1) := by decide +kernel
theorem dL_law_806 : decode cL_law 806 = .ok (.iconst 1, 1) := by decide +kernel
theorem dL_law_807 : decode cL_law 807 = .ok (.iadd, 1) := by decide +kernel
theorem dL_law_808 : decode cL_law 808 = .ok (.iaload, 1) := by decide +kernel
theorem dL_law_809 : decode cL_law 809 = .ok (.invokevirtual 115, 3) := by decide +kernel
theorem dL_law_812 : decode cL_law 812 = .ok (.if_icmp .eq 61, 3) := by decide +kernel
theorem dL_law_815 : decode cL_law 815 = .ok (.iconst 0, 1) := by decide +kernel
theorem dL_law_816 : decode cL_law 816 = .ok (.ireturn, 1) := by decide +kernel
theorem dL_law_817 : decode cL_law 817 = .ok (.aload_n 1, 1) := by decide +kernel
theorem dL_law_818 : decode cL_law 818 = .ok (.aload_n 0, 1) := by decide +kernel
theorem dL_law_819 : decode cL_law 819 = .ok (.iload_n 3, 1) := by decide +kernel
theorem dL_law_820 : decode cL_law 820 = .ok (.iconst 1, 1) := by decide +kernel
theorem dL_law_821 : decode cL_law 821 = .ok (.iadd, 1) := by decide +kernel
theorem dL_law_822 : decode cL_law 822 = .ok (.iaload, 1) := by decide +kernel
theorem dL_law_823 : decode cL_law 823 = .ok (.aload_n 0, 1) := by decide +kernel
theorem dL_law_824 : decode cL_law 824 = .ok (.iload_n 3, 1) := by decide +kernel
theorem dL_law_825 : decode cL_law 825 = .ok (.iconst 2, 1) := by decide +kernel
theorem dL_law_826 : decode cL_law 826 = .ok (.iadd, 1) := by decide +kernel
theorem dL_law_827 : decode cL_law 827 = .ok (.iaload, 1) := by decide +kernel
theorem dL_law_828 : decode cL_law 828 = .ok (.invokevirtual 116, 3) := by decide +kernel
theorem dL_law_831 : decode cL_law 831 = .ok (.aload_n 2, 1) := by decide +kernel
theorem dL_law_832 : decode cL_law 832 = .ok (.aload_n 0, 1) := by decide +kernel
theorem dL_law_833 : decode cL_law 833 = .ok (.iload_n 3, 1) := by decide +kernel
theorem dL_law_834 : decode cL_law 834 = .ok (.iconst 1, 1) := by decide +kernel
theorem dL_law_835 : decode cL_law 835 = .ok (.iadd, 1) := by decide +kernel
theorem dL_law_836 : decode cL_law 836 = .ok (.iaload, 1) := by decide +kernel
theorem dL_law_837 : decode cL_law 837 = .ok (.aload_n 0, 1) := by decide +kernel
theorem dL_law_838 : decode cL_law 838 = .ok (.iload_n 3, 1) := by decide +kernel
theorem dL_law_839 : decode cL_law 839 = .ok (.iconst 2, 1) := by decide +kernel
theorem dL_law_840 : decode cL_law 840 = .ok (.iadd, 1) := by decide +kernel
theorem dL_law_841 : decode cL_law 841 = .ok (.iaload, 1) := by decide +kernel
theorem dL_law_842 : decode cL_law 842 = .ok (.invokevirtual 119, 3) := by decide +kernel
theorem dL_law_845 : decode cL_law 845 = .ok (.if_icmp .eq 28, 3) := by decide +kernel
theorem dL_law_848 : decode cL_law 848 = .ok (.iconst 0, 1) := by decide +kernel
theorem dL_law_849 : decode cL_law 849 = .ok (.ireturn, 1) := by decide +kernel
theorem dL_law_850 : decode cL_law 850 = .ok (.aload_n 1, 1) := by decide +kernel
theorem dL_law_851 : decode cL_law 851 = .ok (.aload_n 0, 1) := by decide +kernel
theorem dL_law_852 : decode cL_law 852 = .ok (.iload_n 3, 1) := by decide +kernel
theorem dL_law_853 : decode cL_law 853 = .ok (.iconst 1, 1) := by decide +kernel
theorem dL_law_854 : decode cL_law 854 = .ok (.iadd, 1) := by decide +kernel
theorem dL_law_855 : decode cL_law 855 = .ok (.iaload, 1) := by decide +kernel
theorem dL_law_856 : decode cL_law 856 = .ok (.invokevirtual 120, 3) := by decide +kernel
theorem dL_law_859 : decode cL_law 859 = .ok (.aload_n 2, 1) := by decide +kernel
theorem dL_law_860 : decode cL_law 860 = .ok (.aload_n 0, 1) := by decide +kernel
theorem dL_law_861 : decode cL_law 861 = .ok (.iload_n 3, 1) := by decide +kernel
theorem dL_law_862 : decode cL_law 862 = .ok (.iconst 1, 1) := by decide +kernel
theorem dL_law_863 : decode cL_law 863 = .ok (.iadd, 1) := by decide +kernel
theorem dL_law_864 : decode cL_law 864 = .ok (.iaload, 1) := by decide +kernel
theorem dL_law_865 : decode cL_law 865 = .ok (.invokevirtual 123, 3) := by decide +kernel
theorem dL_law_868 : decode cL_law 868 = .ok (.if_icmp .eq 5, 3) := by decide +kernel
theorem dL_law_871 : decode cL_law 871 = .ok (.iconst 0, 1) := by decide +kernel
theorem dL_law_872 : decode cL_law 872 = .ok (.ireturn, 1) := by decide +kernel
theorem dL_law_873 : decode cL_law 873 = .ok (.iinc 3 4, 3) := by decide +kernel
theorem dL_law_876 : decode cL_law 876 = .ok (.goto (-858), 3) := by decide +kernel
theorem dL_law_879 : decode cL_law 879 = .ok (.iconst 1, 1) := by decide +kernel
theorem dL_law_880 : decode cL_law 880 = .ok (.ireturn, 1) := by decide +kernel
