/-! the rows of names, lists and contracts that rest on the words of NoSuchElementException, with the words as the Statement has them (written by wip/whole/nsefix.py) -/
def wsX10_requireFound_n : List Cond := .code yX10_requireFound cX10_requireFound 1 (some .int) :: ([.classLink RX10 167 "java/util/NoSuchElementException", .initialized "java/util/NoSuchElementException"] ++ vx_atNS.filter goodWord)
def wsX10_acrobatAt_n : List Cond := .code yX10_acrobatAt cX10_acrobatAt 3 (some .int) :: ((wsX10_acrobatAt_r1 ++ wsX10_acrobatAt_r2) ++ wsX100 ++ wsX30 ++ wsX90 ++ (vx_atS RX10 306 "java/lang/IllegalArgumentException" ["java/lang/RuntimeException", "java/lang/Exception"]).filter goodWord ++ (vx_atM "java/lang/ArrayIndexOutOfBoundsException" ["java/lang/IndexOutOfBoundsException", "java/lang/RuntimeException", "java/lang/Exception"]).filter goodWord ++ vx_atNS.filter goodWord)
def wsX10_loadOn_n : List Cond := .code yX10_loadOn cX10_loadOn 3 (some .int) :: ((wsX10_loadOn_r1 ++ wsX10_loadOn_r2) ++ wsX100 ++ wsX30 ++ wsX90 ++ vx_atNS.filter goodWord ++ (vx_atS RX10 306 "java/lang/IllegalArgumentException" ["java/lang/RuntimeException", "java/lang/Exception"]).filter goodWord ++ (vx_atM "java/lang/ArrayIndexOutOfBoundsException" ["java/lang/IndexOutOfBoundsException", "java/lang/RuntimeException", "java/lang/Exception"]).filter goodWord)
def wsX10_overloaded_n : List Cond := .code yX10_overloaded cX10_overloaded 2 (some .int) :: ((wsX10_overloaded_r1 ++ wsX10_overloaded_r2) ++ wsX100 ++ wsX30 ++ wsX90 ++ (vx_atS RX10 306 "java/lang/IllegalArgumentException" ["java/lang/RuntimeException", "java/lang/Exception"]).filter goodWord ++ (vx_atM "java/lang/ArrayIndexOutOfBoundsException" ["java/lang/IndexOutOfBoundsException", "java/lang/RuntimeException", "java/lang/Exception"]).filter goodWord ++ vx_atNS.filter goodWord)
def wsX10_accountByBalance_n : List Cond := .code yX10_accountByBalance cX10_accountByBalance 2 (some .int) :: ([.fieldLink RX10 12 "CircusLedger" "now" "LCircusLedger$Circus;", .fieldLink RX10 74 "CircusLedger$Circus" "books" "LCircusLedger$Books;", .methodLink RX10 235 yX2_accountAtRank, .instanceMethod yX2_accountAtRank, .selects RX2 yX2_accountAtRank yX2_accountAtRank, .initialized RX2, .code yX2_accountAtRank cX2_accountAtRank 3 (some .int), .fieldLink RX2 9 "CircusLedger$Books" "accounts" "I", .methodLink RX2 67 yX2_rankOf, .instanceMethod yX2_rankOf, .selects RX2 yX2_rankOf yX2_rankOf, .code yX2_rankOf cX2_rankOf 5 (some .int), .fieldLink RX2 15 "CircusLedger$Books" "balances" "[I", .methodLink RX10 160 yX10_requireFound, .static yX10_requireFound, .initialized RX10, .code yX10_requireFound cX10_requireFound 1 (some .int), .classLink RX10 167 "java/util/NoSuchElementException", .initialized "java/util/NoSuchElementException"] ++ wsX100 ++ wsX30 ++ wsX20 ++ (vx_atM "java/lang/ArrayIndexOutOfBoundsException" ["java/lang/IndexOutOfBoundsException", "java/lang/RuntimeException", "java/lang/Exception"]).filter goodWord ++ vx_atNS.filter goodWord)
def wsX10_errorPosition_n : List Cond := .code yX10_errorPosition cX10_errorPosition 1 (some .int) :: ([.fieldLink RX10 40 "CircusLedger" "formError" "I", .methodLink RX10 160 yX10_requireFound, .static yX10_requireFound, .initialized RX10, .code yX10_requireFound cX10_requireFound 1 (some .int), .classLink RX10 167 "java/util/NoSuchElementException", .initialized "java/util/NoSuchElementException"] ++ wsX100 ++ vx_atNS.filter goodWord)
def wsX10_failedCommand_n : List Cond := .code yX10_failedCommand cX10_failedCommand 1 (some .int) :: ([.fieldLink RX10 44 "CircusLedger" "commandError" "I", .methodLink RX10 160 yX10_requireFound, .static yX10_requireFound, .initialized RX10, .code yX10_requireFound cX10_requireFound 1 (some .int), .classLink RX10 167 "java/util/NoSuchElementException", .initialized "java/util/NoSuchElementException"] ++ wsX100 ++ vx_atNS.filter goodWord)
def wsX10_undo_n : List Cond := .code yX10_undo cX10_undo 1 (some .int) :: ((wsX10_undo_r1 ++ (wsX10_undo_r2 ++ wsX10_undo_r3)) ++ wsX100 ++ wsX50 ++ wsX30 ++ wsX90 ++ wsX20 ++ vx_atNS.filter goodWord)
def wsL_acrobatAt_n : List Cond := .codeWith yL_acrobatAt cL_acrobatAt 5 (some .int) [(0, 10, 13, 13), (0, 10, 17, 67)] :: ((wsL_acrobatAt_r1 ++ wsL_acrobatAt_r2) ++ wsX100 ++ wsX30 ++ wsX90 ++ (vx_atM "java/lang/ArrayIndexOutOfBoundsException" ["java/lang/IndexOutOfBoundsException", "java/lang/RuntimeException", "java/lang/Exception"]).filter goodWord ++ (vx_atS RX10 306 "java/lang/IllegalArgumentException" ["java/lang/RuntimeException", "java/lang/Exception"]).filter goodWord ++ vx_atNS.filter goodWord)
def wsL_loadOn_n : List Cond := .codeWith yL_loadOn cL_loadOn 5 (some .int) [(0, 10, 13, 13), (0, 10, 17, 67)] :: ((wsL_loadOn_r1 ++ wsL_loadOn_r2) ++ wsX100 ++ wsX30 ++ wsX90 ++ (vx_atM "java/lang/ArrayIndexOutOfBoundsException" ["java/lang/IndexOutOfBoundsException", "java/lang/RuntimeException", "java/lang/Exception"]).filter goodWord ++ vx_atNS.filter goodWord ++ (vx_atS RX10 306 "java/lang/IllegalArgumentException" ["java/lang/RuntimeException", "java/lang/Exception"]).filter goodWord)
def wsL_overloaded_n : List Cond := .codeWith yL_overloaded cL_overloaded 4 (some .int) [(0, 9, 12, 13), (0, 9, 15, 67)] :: ((wsL_overloaded_r1 ++ wsL_overloaded_r2) ++ wsX100 ++ wsX30 ++ wsX90 ++ (vx_atM "java/lang/ArrayIndexOutOfBoundsException" ["java/lang/IndexOutOfBoundsException", "java/lang/RuntimeException", "java/lang/Exception"]).filter goodWord ++ (vx_atS RX10 306 "java/lang/IllegalArgumentException" ["java/lang/RuntimeException", "java/lang/Exception"]).filter goodWord ++ vx_atNS.filter goodWord)
def wsL_accountByBalance_n : List Cond := .codeWith yL_accountByBalance cL_accountByBalance 4 (some .int) [(0, 9, 12, 67)] :: ([.classLink RL 67 "java/util/NoSuchElementException", .methodLink RL 114 yX10_accountByBalance, .instanceMethod yX10_accountByBalance, .selects RX10 yX10_accountByBalance yX10_accountByBalance, .initialized RX10, .code yX10_accountByBalance cX10_accountByBalance 2 (some .int), .fieldLink RX10 12 "CircusLedger" "now" "LCircusLedger$Circus;", .fieldLink RX10 74 "CircusLedger$Circus" "books" "LCircusLedger$Books;", .methodLink RX10 235 yX2_accountAtRank, .instanceMethod yX2_accountAtRank, .selects RX2 yX2_accountAtRank yX2_accountAtRank, .initialized RX2, .code yX2_accountAtRank cX2_accountAtRank 3 (some .int), .fieldLink RX2 9 "CircusLedger$Books" "accounts" "I", .methodLink RX2 67 yX2_rankOf, .instanceMethod yX2_rankOf, .selects RX2 yX2_rankOf yX2_rankOf, .code yX2_rankOf cX2_rankOf 5 (some .int), .fieldLink RX2 15 "CircusLedger$Books" "balances" "[I", .methodLink RX10 160 yX10_requireFound, .static yX10_requireFound, .code yX10_requireFound cX10_requireFound 1 (some .int), .classLink RX10 167 "java/util/NoSuchElementException", .initialized "java/util/NoSuchElementException"] ++ wsX100 ++ wsX30 ++ wsX20 ++ (vx_atM "java/lang/ArrayIndexOutOfBoundsException" ["java/lang/IndexOutOfBoundsException", "java/lang/RuntimeException", "java/lang/Exception"]).filter goodWord ++ vx_atNS.filter goodWord)
def wsL_errorPosition_n : List Cond := .codeWith yL_errorPosition cL_errorPosition 3 (some .int) [(0, 8, 11, 67)] :: ([.classLink RL 67 "java/util/NoSuchElementException", .methodLink RL 143 yX10_errorPosition, .instanceMethod yX10_errorPosition, .selects RX10 yX10_errorPosition yX10_errorPosition, .initialized RX10, .code yX10_errorPosition cX10_errorPosition 1 (some .int), .fieldLink RX10 40 "CircusLedger" "formError" "I", .methodLink RX10 160 yX10_requireFound, .static yX10_requireFound, .code yX10_requireFound cX10_requireFound 1 (some .int), .classLink RX10 167 "java/util/NoSuchElementException", .initialized "java/util/NoSuchElementException"] ++ wsX100 ++ (vx_atM "java/lang/ArrayIndexOutOfBoundsException" ["java/lang/IndexOutOfBoundsException", "java/lang/RuntimeException", "java/lang/Exception"]).filter goodWord ++ vx_atNS.filter goodWord)
def wsL_failedCommand_n : List Cond := .codeWith yL_failedCommand cL_failedCommand 3 (some .int) [(0, 8, 11, 67)] :: ([.classLink RL 67 "java/util/NoSuchElementException", .methodLink RL 146 yX10_failedCommand, .instanceMethod yX10_failedCommand, .selects RX10 yX10_failedCommand yX10_failedCommand, .initialized RX10, .code yX10_failedCommand cX10_failedCommand 1 (some .int), .fieldLink RX10 44 "CircusLedger" "commandError" "I", .methodLink RX10 160 yX10_requireFound, .static yX10_requireFound, .code yX10_requireFound cX10_requireFound 1 (some .int), .classLink RX10 167 "java/util/NoSuchElementException", .initialized "java/util/NoSuchElementException"] ++ wsX100 ++ (vx_atM "java/lang/ArrayIndexOutOfBoundsException" ["java/lang/IndexOutOfBoundsException", "java/lang/RuntimeException", "java/lang/Exception"]).filter goodWord ++ vx_atNS.filter goodWord)
def wsL_undo_n : List Cond := .codeWith yL_undo cL_undo 3 (some .int) [(0, 8, 11, 67)] :: ((wsL_undo_r1 ++ (wsL_undo_r2 ++ wsL_undo_r3)) ++ wsX100 ++ wsX50 ++ wsX30 ++ wsX90 ++ wsX20 ++ (vx_atM "java/lang/ArrayIndexOutOfBoundsException" ["java/lang/IndexOutOfBoundsException", "java/lang/RuntimeException", "java/lang/Exception"]).filter goodWord ++ vx_atNS.filter goodWord)
def wsL_law_n : List Cond := wsL_law0 ++ (vx_atM "java/lang/ArrayIndexOutOfBoundsException" ["java/lang/IndexOutOfBoundsException", "java/lang/RuntimeException", "java/lang/Exception"]).filter goodWord ++ (vx_atS RX10 297 "java/lang/IndexOutOfBoundsException" ["java/lang/RuntimeException", "java/lang/Exception"]).filter goodWord ++ (vx_atS RX10 306 "java/lang/IllegalArgumentException" ["java/lang/RuntimeException", "java/lang/Exception"]).filter goodWord ++ (vx_atS RX10 312 "java/lang/IllegalStateException" ["java/lang/RuntimeException", "java/lang/Exception"]).filter goodWord ++ (vx_atS RX10 419 "java/lang/UnsupportedOperationException" ["java/lang/RuntimeException", "java/lang/Exception"]).filter goodWord ++ vx_atNS.filter goodWord ++ (vx_atS RX10 392 "java/lang/ArithmeticException" ["java/lang/RuntimeException", "java/lang/Exception"]).filter goodWord
set_option maxRecDepth 20000 in
theorem ggX10_acrobatAt_X10_requireSet_n : GoodIn wsX10_acrobatAt_n wsX10_requireSet := goodIn_ca (goodIn_r _ [7, 8, 9, 1, 2, 10, 11, 12, 13, 14, 15, 39, 40, 41, 42, 43, 44, 45, 46, 47, 48, 49, 50, 51, 52, 53, 54, 55, 56, 57, 58, 59] (by decide +kernel) (by decide +kernel)) (goodIn_sub (fun _ h => List.mem_cons_of_mem _ (List.mem_append_left _ (List.mem_append_left _ (List.mem_append_right _ h)))) (by decide +kernel))
set_option maxRecDepth 20000 in
theorem gX10_acrobatAt_X10_requireSet_n : GoodIn wsX10_acrobatAt_n (wsV RX10 151 RX10 yX10_requireSet wsX10_requireSet) := goodIn_app (goodIn_of _ (by decide +kernel)) ggX10_acrobatAt_X10_requireSet_n
set_option maxRecDepth 20000 in
theorem ggX10_acrobatAt_X9_memberAt_n : GoodIn wsX10_acrobatAt_n wsX9_memberAt := goodIn_ca (goodIn_r _ [19, 15, 20, 21, 22, 13, 23, 24, 25, 26, 27, 28, 29, 30, 31, 32, 33, 54, 55, 56, 57, 58, 59] (by decide +kernel) (by decide +kernel)) (goodIn_sub (fun _ h => List.mem_cons_of_mem _ (List.mem_append_left _ (List.mem_append_right _ h))) (by decide +kernel))
set_option maxRecDepth 20000 in
theorem gX10_acrobatAt_X9_memberAt_n : GoodIn wsX10_acrobatAt_n (wsV RX10 157 RX9 yX9_memberAt wsX9_memberAt) := goodIn_app (goodIn_of _ (by decide +kernel)) ggX10_acrobatAt_X9_memberAt_n
set_option maxRecDepth 20000 in
theorem ggX10_acrobatAt_X10_requireFound_n : GoodIn wsX10_acrobatAt_n wsX10_requireFound_n := goodIn_ca (goodIn_r _ [36, 37, 38] (by decide +kernel) (by decide +kernel)) (goodIn_sub (fun _ h => List.mem_cons_of_mem _ (List.mem_append_right _ h)) (by decide +kernel))
set_option maxRecDepth 20000 in
theorem gX10_acrobatAt_X10_requireFound_n : GoodIn wsX10_acrobatAt_n (va_wsS RX10 160 yX10_requireFound wsX10_requireFound_n) := goodIn_app (goodIn_of _ (by decide +kernel)) ggX10_acrobatAt_X10_requireFound_n
set_option maxRecDepth 20000 in
theorem ggX10_loadOn_X10_requireSet_n : GoodIn wsX10_loadOn_n wsX10_requireSet := goodIn_ca (goodIn_r _ [9, 10, 11, 3, 4, 12, 13, 14, 15, 16, 17, 33, 34, 35, 36, 37, 38, 39, 40, 41, 42, 43, 44, 45, 46, 47, 48, 49, 50, 51, 52, 53] (by decide +kernel) (by decide +kernel)) (goodIn_sub (fun _ h => List.mem_cons_of_mem _ (List.mem_append_left _ (List.mem_append_right _ h))) (by decide +kernel))
set_option maxRecDepth 20000 in
theorem gX10_loadOn_X10_requireSet_n : GoodIn wsX10_loadOn_n (wsV RX10 151 RX10 yX10_requireSet wsX10_requireSet) := goodIn_app (goodIn_of _ (by decide +kernel)) ggX10_loadOn_X10_requireSet_n
set_option maxRecDepth 20000 in
theorem ggX10_loadOn_X9_isMember_n : GoodIn wsX10_loadOn_n wsX9_isMember := goodIn_r _ [21, 17, 48, 49, 50, 51, 52, 53] (by decide +kernel) (by decide +kernel)
set_option maxRecDepth 20000 in
theorem gX10_loadOn_X9_isMember_n : GoodIn wsX10_loadOn_n (wsV RX10 163 RX9 yX9_isMember wsX9_isMember) := goodIn_app (goodIn_of _ (by decide +kernel)) ggX10_loadOn_X9_isMember_n
set_option maxRecDepth 20000 in
theorem ggX10_loadOn_X9_loadOf_n : GoodIn wsX10_loadOn_n wsX9_loadOf := goodIn_ca (goodIn_r _ [25, 17, 26, 27, 19, 20, 15, 21, 28, 29, 30, 31, 32, 48, 49, 50, 51, 52, 53] (by decide +kernel) (by decide +kernel)) (goodIn_sub (fun _ h => List.mem_cons_of_mem _ (List.mem_append_right _ h)) (by decide +kernel))
set_option maxRecDepth 20000 in
theorem gX10_loadOn_X9_loadOf_n : GoodIn wsX10_loadOn_n (wsV RX10 174 RX9 yX9_loadOf wsX9_loadOf) := goodIn_app (goodIn_of _ (by decide +kernel)) ggX10_loadOn_X9_loadOf_n
set_option maxRecDepth 20000 in
theorem ggX10_overloaded_X10_requireSet_n : GoodIn wsX10_overloaded_n wsX10_requireSet := goodIn_ca (goodIn_r _ [7, 8, 9, 1, 2, 10, 11, 12, 13, 14, 15, 39, 40, 41, 42, 43, 44, 45, 46, 47, 48, 49, 50, 51, 52, 53, 54, 55, 56, 57, 58, 59] (by decide +kernel) (by decide +kernel)) (goodIn_sub (fun _ h => List.mem_cons_of_mem _ (List.mem_append_left _ (List.mem_append_left _ (List.mem_append_right _ h)))) (by decide +kernel))
set_option maxRecDepth 20000 in
theorem gX10_overloaded_X10_requireSet_n : GoodIn wsX10_overloaded_n (wsV RX10 151 RX10 yX10_requireSet wsX10_requireSet) := goodIn_app (goodIn_of _ (by decide +kernel)) ggX10_overloaded_X10_requireSet_n
set_option maxRecDepth 20000 in
theorem ggX10_overloaded_X9_overloadedOf_n : GoodIn wsX10_overloaded_n wsX9_overloadedOf := goodIn_ca (goodIn_r _ [19, 15, 20, 21, 22, 23, 13, 24, 25, 26, 27, 28, 29, 30, 31, 32, 33, 54, 55, 56, 57, 58, 59] (by decide +kernel) (by decide +kernel)) (goodIn_sub (fun _ h => List.mem_cons_of_mem _ (List.mem_append_left _ (List.mem_append_right _ h))) (by decide +kernel))
set_option maxRecDepth 20000 in
theorem gX10_overloaded_X9_overloadedOf_n : GoodIn wsX10_overloaded_n (wsV RX10 154 RX9 yX9_overloadedOf wsX9_overloadedOf) := goodIn_app (goodIn_of _ (by decide +kernel)) ggX10_overloaded_X9_overloadedOf_n
set_option maxRecDepth 20000 in
theorem ggX10_overloaded_X10_requireFound_n : GoodIn wsX10_overloaded_n wsX10_requireFound_n := goodIn_ca (goodIn_r _ [36, 37, 38] (by decide +kernel) (by decide +kernel)) (goodIn_sub (fun _ h => List.mem_cons_of_mem _ (List.mem_append_right _ h)) (by decide +kernel))
set_option maxRecDepth 20000 in
theorem gX10_overloaded_X10_requireFound_n : GoodIn wsX10_overloaded_n (va_wsS RX10 160 yX10_requireFound wsX10_requireFound_n) := goodIn_app (goodIn_of _ (by decide +kernel)) ggX10_overloaded_X10_requireFound_n
set_option maxRecDepth 20000 in
theorem ggX10_accountByBalance_X2_accountAtRank_n : GoodIn wsX10_accountByBalance_n wsX2_accountAtRank := goodIn_ca (goodIn_r _ [7, 8, 9, 10, 11, 6, 12, 13, 35, 36, 37, 38, 39, 40, 41] (by decide +kernel) (by decide +kernel)) (goodIn_sub (fun _ h => List.mem_cons_of_mem _ (List.mem_append_left _ (List.mem_append_right _ h))) (by decide +kernel))
set_option maxRecDepth 20000 in
theorem gX10_accountByBalance_X2_accountAtRank_n : GoodIn wsX10_accountByBalance_n (wsV RX10 235 RX2 yX2_accountAtRank wsX2_accountAtRank) := goodIn_app (goodIn_of _ (by decide +kernel)) ggX10_accountByBalance_X2_accountAtRank_n
set_option maxRecDepth 20000 in
theorem ggX10_accountByBalance_X10_requireFound_n : GoodIn wsX10_accountByBalance_n wsX10_requireFound_n := goodIn_ca (goodIn_r _ [17, 18, 19] (by decide +kernel) (by decide +kernel)) (goodIn_sub (fun _ h => List.mem_cons_of_mem _ (List.mem_append_right _ h)) (by decide +kernel))
set_option maxRecDepth 20000 in
theorem gX10_accountByBalance_X10_requireFound_n : GoodIn wsX10_accountByBalance_n (va_wsS RX10 160 yX10_requireFound wsX10_requireFound_n) := goodIn_app (goodIn_of _ (by decide +kernel)) ggX10_accountByBalance_X10_requireFound_n
set_option maxRecDepth 20000 in
theorem ggX10_errorPosition_X10_requireFound_n : GoodIn wsX10_errorPosition_n wsX10_requireFound_n := goodIn_ca (goodIn_r _ [5, 6, 7] (by decide +kernel) (by decide +kernel)) (goodIn_sub (fun _ h => List.mem_cons_of_mem _ (List.mem_append_right _ h)) (by decide +kernel))
set_option maxRecDepth 20000 in
theorem gX10_errorPosition_X10_requireFound_n : GoodIn wsX10_errorPosition_n (va_wsS RX10 160 yX10_requireFound wsX10_requireFound_n) := goodIn_app (goodIn_of _ (by decide +kernel)) ggX10_errorPosition_X10_requireFound_n
set_option maxRecDepth 20000 in
theorem ggX10_failedCommand_X10_requireFound_n : GoodIn wsX10_failedCommand_n wsX10_requireFound_n := goodIn_ca (goodIn_r _ [5, 6, 7] (by decide +kernel) (by decide +kernel)) (goodIn_sub (fun _ h => List.mem_cons_of_mem _ (List.mem_append_right _ h)) (by decide +kernel))
set_option maxRecDepth 20000 in
theorem gX10_failedCommand_X10_requireFound_n : GoodIn wsX10_failedCommand_n (va_wsS RX10 160 yX10_requireFound wsX10_requireFound_n) := goodIn_app (goodIn_of _ (by decide +kernel)) ggX10_failedCommand_X10_requireFound_n
set_option maxRecDepth 20000 in
theorem ggX10_undo_X5_goBack_n : GoodIn wsX10_undo_n wsX5_goBack := goodIn_r _ [10, 11, 12, 13, 14, 15, 9, 16, 17, 18, 19, 20, 21, 22, 23, 24, 25, 26, 27, 28, 29, 30, 31, 32, 33, 34, 35, 36, 37, 38, 39, 40, 41, 42, 43, 44, 45, 46, 47, 48, 49, 50, 51, 52, 53, 54, 55, 56, 66, 67, 68, 69, 70, 71, 72, 73, 74, 75, 76, 77, 78, 79, 80, 81, 82, 83, 84, 85, 86, 87] (by decide +kernel) (by decide +kernel)
set_option maxRecDepth 20000 in
theorem gX10_undo_X5_goBack_n : GoodIn wsX10_undo_n (wsV RX10 353 RX5 yX5_goBack wsX5_goBack) := goodIn_app (goodIn_of _ (by decide +kernel)) ggX10_undo_X5_goBack_n
theorem tw_X10_requireFound_167_n : Cond.classLink RX10 167 "java/util/NoSuchElementException" ∈ wsX10_requireFound_n ∧ Cond.initialized "java/util/NoSuchElementException" ∈ wsX10_requireFound_n ∧ ∀ w ∈ vx_atNS.filter goodWord, w ∈ wsX10_requireFound_n := ⟨by decide +kernel, by decide +kernel, by decide +kernel⟩
set_option maxHeartbeats 4000000 in
set_option maxRecDepth 100000 in
theorem c_X10_requireFound_n (l : Launch) (hl0 : l.stackTraces = false) (dC : Nat → ClassId) (dI : Nat → Nat → Nat) (Y : Nat → ClassId) (g : Nat → Nat → Nat)   (x0 : Int32) (out : Int32 ⊕ String) (hf : f_X10_requireFound x0 = some out) : vx_Met l yX10_requireFound wsX10_requireFound_n ({ frames := 8, cells := 1, slots := 6, locals := 120 } : Room) (va_Pc [.int x0] (wk_BT (dC, dI) Y g ([] : va_W))) (wxQi out) (wxX out) 1 6 (fun _ => False) := by
  refine vx_ofW (cc := cX10_requireFound) (maxL := 1) (ret := (some .int)) (by decide) rfl ?_
  intro p e s m args below meth c s₁ B hml htab hv
  obtain ⟨rfl, ⟨hP, hK⟩, hT⟩ := hv
  have hx := B.exec
  have hb := B.bytes
  have hr := B.returns
  have hts := atoms_spec (ws := wsX10_requireFound_n) B.pre
  have hown : s.vm.findClass RX10 = some m.cls := findClass_of_methodNamed B.named
  have hlocks := B.notSynchronized
  have C0 : wk_C p s m _ meth c cX10_requireFound 1 (some .int) wsX10_requireFound_n RX10 := ⟨hx, hb, hml, hr, hlocks, hown, hts⟩
  have hP : va_P (dC, dI) vwCl [] s.heap := hP
  have hS : va_S (fun _ : Nat => False) s.heap s.heap [] := va_S.rf
  have hl := lv_entry ([.int x0]) (n := 1) (Nat.le_of_ble_eq_true rfl)
  rw [lg_entry_eq]
  generalize (lg_sl ([.int x0]) ++ List.replicate (1 - (lg_sl ([.int x0])).length) Slot.unset).toArray = ls at hl ⊢
  have hl : lv_has ls 1 [(0, .int x0)] := hl
  rw [f_X10_requireFound] at hf
  refine lv_iload_n hx hb dX10_requireFound_0 rfl (lv_at hl 0 rfl) ?_
  refine lv_iconst (v := (-1)) hx hb dX10_requireFound_1 (by decide) ?_
  refine lv_icmp_ne (tgt := 16) hx hb dX10_requireFound_2 (by decide) (fun q1 => ?_) (fun q1 => ?_)
  · have hf := wk_f hf q1
    refine lv_iload_n hx hb dX10_requireFound_16 rfl (lv_at hl 0 rfl) ?_
    have e0 := wke1 hf
    subst e0
    refine W.widen (k := 1) (n := 6) (Nat.le_of_ble_eq_true rfl) (Nat.le_of_ble_eq_true rfl) ?_
    refine vx_ret ?_
    exact W.iret (v := x0) hx hb hr (fun t ht hW => ⟨x0, rfl, rfl, ht⟩) (fun q h => absurd h List.not_mem_nil) dX10_requireFound_17
  · have hf := wk_t hf q1
    have e0 := wke1 hf
    subst e0
    refine vx_throwNW (rest := []) (text := "there is no such thing") (sa := g 5 14) (A := (fun _ => False)) hx hb hl0 hown (hts _ tw_X10_requireFound_167_n.1) (hts _ tw_X10_requireFound_167_n.2.1) ((wk_T.thr hT).2.2.1 14 (by decide)) (vx_hat (B := wk_tb "java/util/NoSuchElementException") (fun w h => hts w (tw_X10_requireFound_167_n.2.2 w h)) (by decide +kernel) (wk_tbp hT 5 (by decide) rfl)) (by decide +kernel) (wk_T.thr hT).1 (wk_T.thr hT).2.1 hS (hl.1.trans hml.symm) dX10_requireFound_5 dX10_requireFound_8 dX10_requireFound_9 dX10_requireFound_12 dX10_requireFound_15 (fun x h => (htab x h).elim) (Nat.le_of_ble_eq_true rfl) (Nat.le_of_ble_eq_true rfl) (Nat.le_of_ble_eq_true rfl) (Nat.le_of_ble_eq_true rfl) hlocks (fun t hvm hz hq => ⟨rfl, hz, hq⟩) (fun q h => absurd h List.not_mem_nil) (Nat.le_of_ble_eq_true rfl) (Nat.le_of_ble_eq_true rfl)
theorem lk_X10_acrobatAt_RX10_12_n : Cond.fieldLink RX10 12 "CircusLedger" "now" "LCircusLedger$Circus;" ∈ wsX10_acrobatAt_n := by decide +kernel
theorem lk_X10_acrobatAt_RX10_122_n : Cond.fieldLink RX10 122 "CircusLedger$Circus" "troupe" "LCircusLedger$Troupe;" ∈ wsX10_acrobatAt_n := by decide +kernel
theorem in_X10_acrobatAt_X10_n : ∀ w ∈ u_ws RX10 TX10 9, w ∈ wsX10_acrobatAt_n := by decide +kernel
theorem in_X10_acrobatAt_X3_n : ∀ w ∈ u_ws RX3 TX3 6, w ∈ wsX10_acrobatAt_n := by decide +kernel
set_option maxHeartbeats 4000000 in
set_option maxRecDepth 100000 in
theorem c_X10_acrobatAt_n (l : Launch) (hl0 : l.stackTraces = false) (dC : Nat → ClassId) (dI : Nat → Nat → Nat) (Y : Nat → ClassId) (g : Nat → Nat → Nat) (a : Nat → Nat) (L_hasSnapshot : Int32) (L_formError : Int32) (L_commandError : Int32) (T_count : Int32) (T_weights : Nat → Int32) (T_strengths : Nat → Int32) (T_heights : Nat → Int32) (T_wages : Nat → Int32) (T_nightsToHeal : Nat → Int32) (B_accounts : Int32) (B_balances : Nat → Int32) (B_balancesAtClosing : Nat → Int32) (B_entries : Int32) (B_debited : Nat → Int32) (B_credited : Nat → Int32) (B_amounts : Nat → Int32) (C_nights : Int32) (C_netWidth : Int32) (C_shows : Int32) (C_fallen : Int32) (x1 : Int32) (x2 : Int32) (out : Int32 ⊕ String) (hf : f_X10_acrobatAt T_count T_weights T_strengths x1 x2 = some out) : vx_Met l yX10_acrobatAt wsX10_acrobatAt_n ({ frames := 9, cells := 2, slots := 12, locals := 141 } : Room) (va_Pc [.ref (a 0), .int x1, .int x2] (wk_BT (dC, dI) Y g (wX10n Y a L_hasSnapshot L_formError L_commandError T_count T_weights T_strengths T_heights T_wages T_nightsToHeal B_accounts B_balances B_balancesAtClosing B_entries B_debited B_credited B_amounts C_nights C_netWidth C_shows C_fallen))) (wxQi out) (wxX out) 2 12 (fun _ => False) := by
  refine vx_ofW (cc := cX10_acrobatAt) (maxL := 3) (ret := (some .int)) (by decide) rfl ?_
  intro p e s m args below meth c s₁ B hml htab hv
  obtain ⟨rfl, ⟨hP, hK⟩, hT⟩ := hv
  have hx := B.exec
  have hb := B.bytes
  have hr := B.returns
  have hts := atoms_spec (ws := wsX10_acrobatAt_n) B.pre
  have hown : s.vm.findClass RX10 = some m.cls := findClass_of_methodNamed B.named
  have hlocks := B.notSynchronized
  have C0 : wk_C p s m _ meth c cX10_acrobatAt 3 (some .int) wsX10_acrobatAt_n RX10 := ⟨hx, hb, hml, hr, hlocks, hown, hts⟩
  have hP : va_P (dC, dI) vwCl [(a 0, .inr (10, [.ref (a 1), .ref (a 14), .ref (a 16), .int L_hasSnapshot, .ref (a 29), .ref (a 34), .int L_formError, .int L_commandError, .ref (a 38)])), (a 1, .inr (5, [.ref (a 2), .ref (a 8), .int C_nights, .int C_netWidth, .int C_shows, .int C_fallen])), (a 2, .inr (9, [.int T_count, .ref (a 3), .ref (a 4), .ref (a 5), .ref (a 6), .ref (a 7)])), (a 3, .inl (Y 0, 6, .inl T_weights)), (a 4, .inl (Y 0, 6, .inl T_strengths)), (a 5, .inl (Y 0, 6, .inl T_heights)), (a 6, .inl (Y 0, 6, .inl T_wages)), (a 7, .inl (Y 0, 6, .inl T_nightsToHeal)), (a 8, .inr (4, [.int B_accounts, .ref (a 9), .ref (a 10), .int B_entries, .ref (a 11), .ref (a 12), .ref (a 13)])), (a 9, .inl (Y 0, 11, .inl B_balances)), (a 10, .inl (Y 0, 11, .inl B_balancesAtClosing)), (a 11, .inl (Y 0, 60, .inl B_debited)), (a 12, .inl (Y 0, 60, .inl B_credited)), (a 13, .inl (Y 0, 60, .inl B_amounts))] s.heap := hP
  have hS : va_S (fun _ : Nat => False) s.heap s.heap [] := va_S.rf
  have hl := lv_entry ([.ref (a 0), .int x1, .int x2]) (n := 3) (Nat.le_of_ble_eq_true rfl)
  rw [lg_entry_eq]
  generalize (lg_sl ([.ref (a 0), .int x1, .int x2]) ++ List.replicate (3 - (lg_sl ([.ref (a 0), .int x1, .int x2])).length) Slot.unset).toArray = ls at hl ⊢
  have hl : lv_has ls 3 [(0, .ref (a 0)), (1, .int x1), (2, .int x2)] := hl
  rw [f_X10_acrobatAt] at hf
  refine lv_aload_n hx hb dX10_acrobatAt_0 rfl (lv_at hl 0 rfl) ?_
  refine lv_iload_n hx hb dX10_acrobatAt_1 rfl (lv_at hl 1 rfl) ?_
  rcases wkx_s hf with ⟨r2, hr1, hf⟩ | ⟨E3, hr1, hf⟩
  · have hPc : va_P (dC, dI) vwCl (wX10n Y a L_hasSnapshot L_formError L_commandError T_count T_weights T_strengths T_heights T_wages T_nightsToHeal B_accounts B_balances B_balancesAtClosing B_entries B_debited B_credited B_amounts C_nights C_netWidth C_shows C_fallen) s.heap := hP
    refine wx_vvN (As := [.int x1]) (rest := []) ⟨hx, hb, hml, hown, hts⟩ (c_X10_requireSet l hl0 dC dI Y g a L_hasSnapshot L_formError L_commandError T_count T_weights T_strengths T_heights T_wages T_nightsToHeal B_accounts B_balances B_balancesAtClosing B_entries B_debited B_credited B_amounts C_nights C_netWidth C_shows C_fallen x1 (.inl r2) hr1) (cwV 1 hts gX10_acrobatAt_X10_requireSet_n rfl rfl rfl (by decide +kernel) ⟨Nat.le_of_ble_eq_true rfl, Nat.le_of_ble_eq_true rfl⟩) hK hPc hT hS (va_recv hK hP (ci := 10) (q0 := 0) rfl rfl) rfl hl.1 rfl (Nat.le_of_ble_eq_true rfl) dX10_acrobatAt_2 ⟨Nat.le_of_ble_eq_true rfl, Nat.le_of_ble_eq_true rfl⟩ ?_
    refine lv_aload_n hx hb dX10_acrobatAt_5 rfl (lv_at hl 0 rfl) ?_
    refine va_get (D := (dC, dI)) (ci := 10) (v := .ref (a 1)) (C := RX10) (T := TX10) (N := 9) hx hb hts in_X10_acrobatAt_X10_n hown hK hP 0 rfl rfl 0 (by decide) (hts _ lk_X10_acrobatAt_RX10_12_n) (fun _ h9 => h9) rfl dX10_acrobatAt_6 ?_
    refine va_get (D := (dC, dI)) (ci := 5) (v := .ref (a 2)) (C := RX3) (T := TX3) (N := 6) hx hb hts in_X10_acrobatAt_X3_n hown hK hP 1 rfl rfl 0 (by decide) (hts _ lk_X10_acrobatAt_RX10_122_n) (fun _ h9 => h9) rfl dX10_acrobatAt_9 ?_
    refine lv_iload_n hx hb dX10_acrobatAt_12 rfl (lv_at hl 1 rfl) ?_
    refine lv_iload_n hx hb dX10_acrobatAt_13 rfl (lv_at hl 2 rfl) ?_
    obtain ⟨r4, hr5, hf⟩ := wkb1_s hf
    have hPc := hP.sub (ws' := (wX9 Y (fun k => a (k + 2)) T_count T_weights T_strengths T_heights T_wages T_nightsToHeal)) [2, 3, 4, 5, 6, 7] rfl
    refine wk_vi (As := [.int x1, .int x2]) (rest := []) ⟨hx, hb, hml, hown, hts⟩ (c_X9_memberAt l dC dI Y (fun k => a (k + 2)) T_count T_weights T_strengths T_heights T_wages T_nightsToHeal x1 x2 r4 hr5) (cwV 2 hts gX10_acrobatAt_X9_memberAt_n rfl rfl rfl (by decide +kernel) ⟨Nat.le_of_ble_eq_true rfl, Nat.le_of_ble_eq_true rfl⟩) hK hPc (va_recv hK hP (ci := 9) (q0 := 2) rfl rfl) rfl hl.1 rfl (Nat.le_of_ble_eq_true rfl) dX10_acrobatAt_14 ⟨Nat.le_of_ble_eq_true rfl, Nat.le_of_ble_eq_true rfl⟩ ?_
    rcases wkx_s hf with ⟨r6, hr7, hf⟩ | ⟨E8, hr7, hf⟩
    · have hPc := hP.sub (ws' := ([] : va_W)) [] rfl
      refine wx_siN (As := [.int r4]) (rest := []) ⟨hx, hb, hml, hown, hts⟩ (c_X10_requireFound_n l hl0 dC dI Y g   r4 (.inl r6) hr7) (va_cwS 1 hts gX10_acrobatAt_X10_requireFound_n rfl rfl rfl (by decide +kernel) ⟨Nat.le_of_ble_eq_true rfl, Nat.le_of_ble_eq_true rfl⟩) hK hPc hT hS rfl hl.1 rfl (Nat.le_of_ble_eq_true rfl) dX10_acrobatAt_17 ⟨Nat.le_of_ble_eq_true rfl, Nat.le_of_ble_eq_true rfl⟩ ?_
      have e0 := wke1 hf
      subst e0
      refine W.widen (k := 2) (n := 12) (Nat.le_of_ble_eq_true rfl) (Nat.le_of_ble_eq_true rfl) ?_
      refine vx_ret ?_
      exact W.iret (v := r6) hx hb hr (fun t ht hW => ⟨r6, rfl, rfl, ht⟩) (fun q h => absurd h List.not_mem_nil) dX10_acrobatAt_20
    · subst hf
      have hPc := hP.sub (ws' := ([] : va_W)) [] rfl
      refine wx_siX (As := [.int r4]) (rest := []) ⟨hx, hb, hml, hown, hts⟩ (c_X10_requireFound_n l hl0 dC dI Y g   r4 (.inr E8) hr7) (va_cwS 1 hts gX10_acrobatAt_X10_requireFound_n rfl rfl rfl (by decide +kernel) ⟨Nat.le_of_ble_eq_true rfl, Nat.le_of_ble_eq_true rfl⟩) hK hPc hT hS rfl hl.1 rfl (Nat.le_of_ble_eq_true rfl) dX10_acrobatAt_17 ⟨Nat.le_of_ble_eq_true rfl, Nat.le_of_ble_eq_true rfl⟩ (fun H1 ce q9 hz hq hce hcv hcl => ?_)
      exact vx_out (fun x h => (htab x h).elim) hlocks hce hcv hcl (fun t ht hvm => ⟨rfl, by rw [ht]; exact hz, fun q h => by rw [ht]; exact hq q h⟩) (fun q h => absurd h List.not_mem_nil) (Nat.le_of_ble_eq_true rfl) (Nat.le_of_ble_eq_true rfl)
  · subst hf
    have hPc : va_P (dC, dI) vwCl (wX10n Y a L_hasSnapshot L_formError L_commandError T_count T_weights T_strengths T_heights T_wages T_nightsToHeal B_accounts B_balances B_balancesAtClosing B_entries B_debited B_credited B_amounts C_nights C_netWidth C_shows C_fallen) s.heap := hP
    refine wx_vvX (As := [.int x1]) (rest := []) ⟨hx, hb, hml, hown, hts⟩ (c_X10_requireSet l hl0 dC dI Y g a L_hasSnapshot L_formError L_commandError T_count T_weights T_strengths T_heights T_wages T_nightsToHeal B_accounts B_balances B_balancesAtClosing B_entries B_debited B_credited B_amounts C_nights C_netWidth C_shows C_fallen x1 (.inr E3) hr1) (cwV 1 hts gX10_acrobatAt_X10_requireSet_n rfl rfl rfl (by decide +kernel) ⟨Nat.le_of_ble_eq_true rfl, Nat.le_of_ble_eq_true rfl⟩) hK hPc hT hS (va_recv hK hP (ci := 10) (q0 := 0) rfl rfl) rfl hl.1 rfl (Nat.le_of_ble_eq_true rfl) dX10_acrobatAt_2 ⟨Nat.le_of_ble_eq_true rfl, Nat.le_of_ble_eq_true rfl⟩ (fun H1 ce q9 hz hq hce hcv hcl => ?_)
    exact vx_out (fun x h => (htab x h).elim) hlocks hce hcv hcl (fun t ht hvm => ⟨rfl, by rw [ht]; exact hz, fun q h => by rw [ht]; exact hq q h⟩) (fun q h => absurd h List.not_mem_nil) (Nat.le_of_ble_eq_true rfl) (Nat.le_of_ble_eq_true rfl)
theorem tw_X10_loadOn_167_n : Cond.classLink RX10 167 "java/util/NoSuchElementException" ∈ wsX10_loadOn_n ∧ Cond.initialized "java/util/NoSuchElementException" ∈ wsX10_loadOn_n ∧ ∀ w ∈ vx_atNS.filter goodWord, w ∈ wsX10_loadOn_n := ⟨by decide +kernel, by decide +kernel, by decide +kernel⟩
theorem lk_X10_loadOn_RX10_12_n : Cond.fieldLink RX10 12 "CircusLedger" "now" "LCircusLedger$Circus;" ∈ wsX10_loadOn_n := by decide +kernel
theorem lk_X10_loadOn_RX10_122_n : Cond.fieldLink RX10 122 "CircusLedger$Circus" "troupe" "LCircusLedger$Troupe;" ∈ wsX10_loadOn_n := by decide +kernel
theorem in_X10_loadOn_X10_n : ∀ w ∈ u_ws RX10 TX10 9, w ∈ wsX10_loadOn_n := by decide +kernel
theorem in_X10_loadOn_X3_n : ∀ w ∈ u_ws RX3 TX3 6, w ∈ wsX10_loadOn_n := by decide +kernel
set_option maxHeartbeats 4000000 in
set_option maxRecDepth 100000 in
theorem c_X10_loadOn_n (l : Launch) (hl0 : l.stackTraces = false) (dC : Nat → ClassId) (dI : Nat → Nat → Nat) (Y : Nat → ClassId) (g : Nat → Nat → Nat) (a : Nat → Nat) (L_hasSnapshot : Int32) (L_formError : Int32) (L_commandError : Int32) (T_count : Int32) (T_weights : Nat → Int32) (T_strengths : Nat → Int32) (T_heights : Nat → Int32) (T_wages : Nat → Int32) (T_nightsToHeal : Nat → Int32) (B_accounts : Int32) (B_balances : Nat → Int32) (B_balancesAtClosing : Nat → Int32) (B_entries : Int32) (B_debited : Nat → Int32) (B_credited : Nat → Int32) (B_amounts : Nat → Int32) (C_nights : Int32) (C_netWidth : Int32) (C_shows : Int32) (C_fallen : Int32) (x1 : Int32) (x2 : Int32) (out : Int32 ⊕ String) (hf : f_X10_loadOn T_count T_weights T_strengths x1 x2 = some out) : vx_Met l yX10_loadOn wsX10_loadOn_n ({ frames := 9, cells := 2, slots := 12, locals := 141 } : Room) (va_Pc [.ref (a 0), .int x1, .int x2] (wk_BT (dC, dI) Y g (wX10n Y a L_hasSnapshot L_formError L_commandError T_count T_weights T_strengths T_heights T_wages T_nightsToHeal B_accounts B_balances B_balancesAtClosing B_entries B_debited B_credited B_amounts C_nights C_netWidth C_shows C_fallen))) (wxQi out) (wxX out) 2 12 (fun _ => False) := by
  refine vx_ofW (cc := cX10_loadOn) (maxL := 3) (ret := (some .int)) (by decide) rfl ?_
  intro p e s m args below meth c s₁ B hml htab hv
  obtain ⟨rfl, ⟨hP, hK⟩, hT⟩ := hv
  have hx := B.exec
  have hb := B.bytes
  have hr := B.returns
  have hts := atoms_spec (ws := wsX10_loadOn_n) B.pre
  have hown : s.vm.findClass RX10 = some m.cls := findClass_of_methodNamed B.named
  have hlocks := B.notSynchronized
  have C0 : wk_C p s m _ meth c cX10_loadOn 3 (some .int) wsX10_loadOn_n RX10 := ⟨hx, hb, hml, hr, hlocks, hown, hts⟩
  have hP : va_P (dC, dI) vwCl [(a 0, .inr (10, [.ref (a 1), .ref (a 14), .ref (a 16), .int L_hasSnapshot, .ref (a 29), .ref (a 34), .int L_formError, .int L_commandError, .ref (a 38)])), (a 1, .inr (5, [.ref (a 2), .ref (a 8), .int C_nights, .int C_netWidth, .int C_shows, .int C_fallen])), (a 2, .inr (9, [.int T_count, .ref (a 3), .ref (a 4), .ref (a 5), .ref (a 6), .ref (a 7)])), (a 3, .inl (Y 0, 6, .inl T_weights)), (a 4, .inl (Y 0, 6, .inl T_strengths)), (a 5, .inl (Y 0, 6, .inl T_heights)), (a 6, .inl (Y 0, 6, .inl T_wages)), (a 7, .inl (Y 0, 6, .inl T_nightsToHeal)), (a 8, .inr (4, [.int B_accounts, .ref (a 9), .ref (a 10), .int B_entries, .ref (a 11), .ref (a 12), .ref (a 13)])), (a 9, .inl (Y 0, 11, .inl B_balances)), (a 10, .inl (Y 0, 11, .inl B_balancesAtClosing)), (a 11, .inl (Y 0, 60, .inl B_debited)), (a 12, .inl (Y 0, 60, .inl B_credited)), (a 13, .inl (Y 0, 60, .inl B_amounts))] s.heap := hP
  have hS : va_S (fun _ : Nat => False) s.heap s.heap [] := va_S.rf
  have hl := lv_entry ([.ref (a 0), .int x1, .int x2]) (n := 3) (Nat.le_of_ble_eq_true rfl)
  rw [lg_entry_eq]
  generalize (lg_sl ([.ref (a 0), .int x1, .int x2]) ++ List.replicate (3 - (lg_sl ([.ref (a 0), .int x1, .int x2])).length) Slot.unset).toArray = ls at hl ⊢
  have hl : lv_has ls 3 [(0, .ref (a 0)), (1, .int x1), (2, .int x2)] := hl
  rw [f_X10_loadOn] at hf
  refine lv_aload_n hx hb dX10_loadOn_0 rfl (lv_at hl 0 rfl) ?_
  refine lv_iload_n hx hb dX10_loadOn_1 rfl (lv_at hl 1 rfl) ?_
  rcases wkx_s hf with ⟨r2, hr1, hf⟩ | ⟨E3, hr1, hf⟩
  · have hPc : va_P (dC, dI) vwCl (wX10n Y a L_hasSnapshot L_formError L_commandError T_count T_weights T_strengths T_heights T_wages T_nightsToHeal B_accounts B_balances B_balancesAtClosing B_entries B_debited B_credited B_amounts C_nights C_netWidth C_shows C_fallen) s.heap := hP
    refine wx_vvN (As := [.int x1]) (rest := []) ⟨hx, hb, hml, hown, hts⟩ (c_X10_requireSet l hl0 dC dI Y g a L_hasSnapshot L_formError L_commandError T_count T_weights T_strengths T_heights T_wages T_nightsToHeal B_accounts B_balances B_balancesAtClosing B_entries B_debited B_credited B_amounts C_nights C_netWidth C_shows C_fallen x1 (.inl r2) hr1) (cwV 1 hts gX10_loadOn_X10_requireSet_n rfl rfl rfl (by decide +kernel) ⟨Nat.le_of_ble_eq_true rfl, Nat.le_of_ble_eq_true rfl⟩) hK hPc hT hS (va_recv hK hP (ci := 10) (q0 := 0) rfl rfl) rfl hl.1 rfl (Nat.le_of_ble_eq_true rfl) dX10_loadOn_2 ⟨Nat.le_of_ble_eq_true rfl, Nat.le_of_ble_eq_true rfl⟩ ?_
    refine lv_aload_n hx hb dX10_loadOn_5 rfl (lv_at hl 0 rfl) ?_
    refine va_get (D := (dC, dI)) (ci := 10) (v := .ref (a 1)) (C := RX10) (T := TX10) (N := 9) hx hb hts in_X10_loadOn_X10_n hown hK hP 0 rfl rfl 0 (by decide) (hts _ lk_X10_loadOn_RX10_12_n) (fun _ h9 => h9) rfl dX10_loadOn_6 ?_
    refine va_get (D := (dC, dI)) (ci := 5) (v := .ref (a 2)) (C := RX3) (T := TX3) (N := 6) hx hb hts in_X10_loadOn_X3_n hown hK hP 1 rfl rfl 0 (by decide) (hts _ lk_X10_loadOn_RX10_122_n) (fun _ h9 => h9) rfl dX10_loadOn_9 ?_
    refine lv_iload_n hx hb dX10_loadOn_12 rfl (lv_at hl 1 rfl) ?_
    refine lv_iload_n hx hb dX10_loadOn_13 rfl (lv_at hl 2 rfl) ?_
    obtain ⟨r4, hr5, hf⟩ := wkb1_s hf
    have hPc := hP.sub (ws' := (wX9 Y (fun k => a (k + 2)) T_count T_weights T_strengths T_heights T_wages T_nightsToHeal)) [2, 3, 4, 5, 6, 7] rfl
    refine wk_vi (As := [.int x1, .int x2]) (rest := []) ⟨hx, hb, hml, hown, hts⟩ (c_X9_isMember l dC dI Y (fun k => a (k + 2)) T_count T_weights T_strengths T_heights T_wages T_nightsToHeal x1 x2 r4 hr5) (cwV 2 hts gX10_loadOn_X9_isMember_n rfl rfl rfl (by decide +kernel) ⟨Nat.le_of_ble_eq_true rfl, Nat.le_of_ble_eq_true rfl⟩) hK hPc (va_recv hK hP (ci := 9) (q0 := 2) rfl rfl) rfl hl.1 rfl (Nat.le_of_ble_eq_true rfl) dX10_loadOn_14 ⟨Nat.le_of_ble_eq_true rfl, Nat.le_of_ble_eq_true rfl⟩ ?_
    refine lv_if_ne (tgt := 30) hx hb dX10_loadOn_17 (by decide) (fun q6 => ?_) (fun q6 => ?_)
    · have hf := wk_f hf q6
      refine lv_aload_n hx hb dX10_loadOn_30 rfl (lv_at hl 0 rfl) ?_
      refine va_get (D := (dC, dI)) (ci := 10) (v := .ref (a 1)) (C := RX10) (T := TX10) (N := 9) hx hb hts in_X10_loadOn_X10_n hown hK hP 0 rfl rfl 0 (by decide) (hts _ lk_X10_loadOn_RX10_12_n) (fun _ h9 => h9) rfl dX10_loadOn_31 ?_
      refine va_get (D := (dC, dI)) (ci := 5) (v := .ref (a 2)) (C := RX3) (T := TX3) (N := 6) hx hb hts in_X10_loadOn_X3_n hown hK hP 1 rfl rfl 0 (by decide) (hts _ lk_X10_loadOn_RX10_122_n) (fun _ h9 => h9) rfl dX10_loadOn_34 ?_
      refine lv_iload_n hx hb dX10_loadOn_37 rfl (lv_at hl 1 rfl) ?_
      refine lv_iload_n hx hb dX10_loadOn_38 rfl (lv_at hl 2 rfl) ?_
      obtain ⟨r7, hr8, hf⟩ := wkb1_s hf
      have hPc := hP.sub (ws' := (wX9 Y (fun k => a (k + 2)) T_count T_weights T_strengths T_heights T_wages T_nightsToHeal)) [2, 3, 4, 5, 6, 7] rfl
      refine wk_vi (As := [.int x1, .int x2]) (rest := []) ⟨hx, hb, hml, hown, hts⟩ (c_X9_loadOf l dC dI Y (fun k => a (k + 2)) T_count T_weights T_strengths T_heights T_wages T_nightsToHeal x1 x2 r7 hr8) (cwV 2 hts gX10_loadOn_X9_loadOf_n rfl rfl rfl (by decide +kernel) ⟨Nat.le_of_ble_eq_true rfl, Nat.le_of_ble_eq_true rfl⟩) hK hPc (va_recv hK hP (ci := 9) (q0 := 2) rfl rfl) rfl hl.1 rfl (Nat.le_of_ble_eq_true rfl) dX10_loadOn_39 ⟨Nat.le_of_ble_eq_true rfl, Nat.le_of_ble_eq_true rfl⟩ ?_
      have e0 := wke1 hf
      subst e0
      refine W.widen (k := 2) (n := 12) (Nat.le_of_ble_eq_true rfl) (Nat.le_of_ble_eq_true rfl) ?_
      refine vx_ret ?_
      exact W.iret (v := r7) hx hb hr (fun t ht hW => ⟨r7, rfl, rfl, ht⟩) (fun q h => absurd h List.not_mem_nil) dX10_loadOn_42
    · have hf := wk_t hf q6
      have e0 := wke1 hf
      subst e0
      refine vx_throwN (rest := []) (text := "the acrobat is not in the set") (sa := g 5 0) (A := (fun _ => False)) hx hb hl0 hown (hts _ tw_X10_loadOn_167_n.1) (hts _ tw_X10_loadOn_167_n.2.1) ((wk_T.thr hT).2.2.1 0 (by decide)) (vx_hat (B := wk_tb "java/util/NoSuchElementException") (fun w h => hts w (tw_X10_loadOn_167_n.2.2 w h)) (by decide +kernel) (wk_tbp hT 5 (by decide) rfl)) (by decide +kernel) (wk_T.thr hT).1 (wk_T.thr hT).2.1 hS (hl.1.trans hml.symm) dX10_loadOn_20 dX10_loadOn_23 dX10_loadOn_24 dX10_loadOn_26 dX10_loadOn_29 (fun x h => (htab x h).elim) (Nat.le_of_ble_eq_true rfl) (Nat.le_of_ble_eq_true rfl) (Nat.le_of_ble_eq_true rfl) (Nat.le_of_ble_eq_true rfl) hlocks (fun t hvm hz hq => ⟨rfl, hz, hq⟩) (fun q h => absurd h List.not_mem_nil) (Nat.le_of_ble_eq_true rfl) (Nat.le_of_ble_eq_true rfl)
  · subst hf
    have hPc : va_P (dC, dI) vwCl (wX10n Y a L_hasSnapshot L_formError L_commandError T_count T_weights T_strengths T_heights T_wages T_nightsToHeal B_accounts B_balances B_balancesAtClosing B_entries B_debited B_credited B_amounts C_nights C_netWidth C_shows C_fallen) s.heap := hP
    refine wx_vvX (As := [.int x1]) (rest := []) ⟨hx, hb, hml, hown, hts⟩ (c_X10_requireSet l hl0 dC dI Y g a L_hasSnapshot L_formError L_commandError T_count T_weights T_strengths T_heights T_wages T_nightsToHeal B_accounts B_balances B_balancesAtClosing B_entries B_debited B_credited B_amounts C_nights C_netWidth C_shows C_fallen x1 (.inr E3) hr1) (cwV 1 hts gX10_loadOn_X10_requireSet_n rfl rfl rfl (by decide +kernel) ⟨Nat.le_of_ble_eq_true rfl, Nat.le_of_ble_eq_true rfl⟩) hK hPc hT hS (va_recv hK hP (ci := 10) (q0 := 0) rfl rfl) rfl hl.1 rfl (Nat.le_of_ble_eq_true rfl) dX10_loadOn_2 ⟨Nat.le_of_ble_eq_true rfl, Nat.le_of_ble_eq_true rfl⟩ (fun H1 ce q9 hz hq hce hcv hcl => ?_)
    exact vx_out (fun x h => (htab x h).elim) hlocks hce hcv hcl (fun t ht hvm => ⟨rfl, by rw [ht]; exact hz, fun q h => by rw [ht]; exact hq q h⟩) (fun q h => absurd h List.not_mem_nil) (Nat.le_of_ble_eq_true rfl) (Nat.le_of_ble_eq_true rfl)
theorem lk_X10_overloaded_RX10_12_n : Cond.fieldLink RX10 12 "CircusLedger" "now" "LCircusLedger$Circus;" ∈ wsX10_overloaded_n := by decide +kernel
theorem lk_X10_overloaded_RX10_122_n : Cond.fieldLink RX10 122 "CircusLedger$Circus" "troupe" "LCircusLedger$Troupe;" ∈ wsX10_overloaded_n := by decide +kernel
theorem in_X10_overloaded_X10_n : ∀ w ∈ u_ws RX10 TX10 9, w ∈ wsX10_overloaded_n := by decide +kernel
theorem in_X10_overloaded_X3_n : ∀ w ∈ u_ws RX3 TX3 6, w ∈ wsX10_overloaded_n := by decide +kernel
set_option maxHeartbeats 4000000 in
set_option maxRecDepth 100000 in
theorem c_X10_overloaded_n (l : Launch) (hl0 : l.stackTraces = false) (dC : Nat → ClassId) (dI : Nat → Nat → Nat) (Y : Nat → ClassId) (g : Nat → Nat → Nat) (a : Nat → Nat) (L_hasSnapshot : Int32) (L_formError : Int32) (L_commandError : Int32) (T_count : Int32) (T_weights : Nat → Int32) (T_strengths : Nat → Int32) (T_heights : Nat → Int32) (T_wages : Nat → Int32) (T_nightsToHeal : Nat → Int32) (B_accounts : Int32) (B_balances : Nat → Int32) (B_balancesAtClosing : Nat → Int32) (B_entries : Int32) (B_debited : Nat → Int32) (B_credited : Nat → Int32) (B_amounts : Nat → Int32) (C_nights : Int32) (C_netWidth : Int32) (C_shows : Int32) (C_fallen : Int32) (x1 : Int32) (out : Int32 ⊕ String) (hf : f_X10_overloaded T_count T_weights T_strengths x1 = some out) : vx_Met l yX10_overloaded wsX10_overloaded_n ({ frames := 9, cells := 2, slots := 12, locals := 141 } : Room) (va_Pc [.ref (a 0), .int x1] (wk_BT (dC, dI) Y g (wX10n Y a L_hasSnapshot L_formError L_commandError T_count T_weights T_strengths T_heights T_wages T_nightsToHeal B_accounts B_balances B_balancesAtClosing B_entries B_debited B_credited B_amounts C_nights C_netWidth C_shows C_fallen))) (wxQi out) (wxX out) 2 12 (fun _ => False) := by
  refine vx_ofW (cc := cX10_overloaded) (maxL := 2) (ret := (some .int)) (by decide) rfl ?_
  intro p e s m args below meth c s₁ B hml htab hv
  obtain ⟨rfl, ⟨hP, hK⟩, hT⟩ := hv
  have hx := B.exec
  have hb := B.bytes
  have hr := B.returns
  have hts := atoms_spec (ws := wsX10_overloaded_n) B.pre
  have hown : s.vm.findClass RX10 = some m.cls := findClass_of_methodNamed B.named
  have hlocks := B.notSynchronized
  have C0 : wk_C p s m _ meth c cX10_overloaded 2 (some .int) wsX10_overloaded_n RX10 := ⟨hx, hb, hml, hr, hlocks, hown, hts⟩
  have hP : va_P (dC, dI) vwCl [(a 0, .inr (10, [.ref (a 1), .ref (a 14), .ref (a 16), .int L_hasSnapshot, .ref (a 29), .ref (a 34), .int L_formError, .int L_commandError, .ref (a 38)])), (a 1, .inr (5, [.ref (a 2), .ref (a 8), .int C_nights, .int C_netWidth, .int C_shows, .int C_fallen])), (a 2, .inr (9, [.int T_count, .ref (a 3), .ref (a 4), .ref (a 5), .ref (a 6), .ref (a 7)])), (a 3, .inl (Y 0, 6, .inl T_weights)), (a 4, .inl (Y 0, 6, .inl T_strengths)), (a 5, .inl (Y 0, 6, .inl T_heights)), (a 6, .inl (Y 0, 6, .inl T_wages)), (a 7, .inl (Y 0, 6, .inl T_nightsToHeal)), (a 8, .inr (4, [.int B_accounts, .ref (a 9), .ref (a 10), .int B_entries, .ref (a 11), .ref (a 12), .ref (a 13)])), (a 9, .inl (Y 0, 11, .inl B_balances)), (a 10, .inl (Y 0, 11, .inl B_balancesAtClosing)), (a 11, .inl (Y 0, 60, .inl B_debited)), (a 12, .inl (Y 0, 60, .inl B_credited)), (a 13, .inl (Y 0, 60, .inl B_amounts))] s.heap := hP
  have hS : va_S (fun _ : Nat => False) s.heap s.heap [] := va_S.rf
  have hl := lv_entry ([.ref (a 0), .int x1]) (n := 2) (Nat.le_of_ble_eq_true rfl)
  rw [lg_entry_eq]
  generalize (lg_sl ([.ref (a 0), .int x1]) ++ List.replicate (2 - (lg_sl ([.ref (a 0), .int x1])).length) Slot.unset).toArray = ls at hl ⊢
  have hl : lv_has ls 2 [(0, .ref (a 0)), (1, .int x1)] := hl
  rw [f_X10_overloaded] at hf
  refine lv_aload_n hx hb dX10_overloaded_0 rfl (lv_at hl 0 rfl) ?_
  refine lv_iload_n hx hb dX10_overloaded_1 rfl (lv_at hl 1 rfl) ?_
  rcases wkx_s hf with ⟨r2, hr1, hf⟩ | ⟨E3, hr1, hf⟩
  · have hPc : va_P (dC, dI) vwCl (wX10n Y a L_hasSnapshot L_formError L_commandError T_count T_weights T_strengths T_heights T_wages T_nightsToHeal B_accounts B_balances B_balancesAtClosing B_entries B_debited B_credited B_amounts C_nights C_netWidth C_shows C_fallen) s.heap := hP
    refine wx_vvN (As := [.int x1]) (rest := []) ⟨hx, hb, hml, hown, hts⟩ (c_X10_requireSet l hl0 dC dI Y g a L_hasSnapshot L_formError L_commandError T_count T_weights T_strengths T_heights T_wages T_nightsToHeal B_accounts B_balances B_balancesAtClosing B_entries B_debited B_credited B_amounts C_nights C_netWidth C_shows C_fallen x1 (.inl r2) hr1) (cwV 1 hts gX10_overloaded_X10_requireSet_n rfl rfl rfl (by decide +kernel) ⟨Nat.le_of_ble_eq_true rfl, Nat.le_of_ble_eq_true rfl⟩) hK hPc hT hS (va_recv hK hP (ci := 10) (q0 := 0) rfl rfl) rfl hl.1 rfl (Nat.le_of_ble_eq_true rfl) dX10_overloaded_2 ⟨Nat.le_of_ble_eq_true rfl, Nat.le_of_ble_eq_true rfl⟩ ?_
    refine lv_aload_n hx hb dX10_overloaded_5 rfl (lv_at hl 0 rfl) ?_
    refine va_get (D := (dC, dI)) (ci := 10) (v := .ref (a 1)) (C := RX10) (T := TX10) (N := 9) hx hb hts in_X10_overloaded_X10_n hown hK hP 0 rfl rfl 0 (by decide) (hts _ lk_X10_overloaded_RX10_12_n) (fun _ h9 => h9) rfl dX10_overloaded_6 ?_
    refine va_get (D := (dC, dI)) (ci := 5) (v := .ref (a 2)) (C := RX3) (T := TX3) (N := 6) hx hb hts in_X10_overloaded_X3_n hown hK hP 1 rfl rfl 0 (by decide) (hts _ lk_X10_overloaded_RX10_122_n) (fun _ h9 => h9) rfl dX10_overloaded_9 ?_
    refine lv_iload_n hx hb dX10_overloaded_12 rfl (lv_at hl 1 rfl) ?_
    obtain ⟨r4, hr5, hf⟩ := wkb1_s hf
    have hPc := hP.sub (ws' := (wX9 Y (fun k => a (k + 2)) T_count T_weights T_strengths T_heights T_wages T_nightsToHeal)) [2, 3, 4, 5, 6, 7] rfl
    refine wk_vi (As := [.int x1]) (rest := []) ⟨hx, hb, hml, hown, hts⟩ (c_X9_overloadedOf l dC dI Y (fun k => a (k + 2)) T_count T_weights T_strengths T_heights T_wages T_nightsToHeal x1 r4 hr5) (cwV 1 hts gX10_overloaded_X9_overloadedOf_n rfl rfl rfl (by decide +kernel) ⟨Nat.le_of_ble_eq_true rfl, Nat.le_of_ble_eq_true rfl⟩) hK hPc (va_recv hK hP (ci := 9) (q0 := 2) rfl rfl) rfl hl.1 rfl (Nat.le_of_ble_eq_true rfl) dX10_overloaded_13 ⟨Nat.le_of_ble_eq_true rfl, Nat.le_of_ble_eq_true rfl⟩ ?_
    rcases wkx_s hf with ⟨r6, hr7, hf⟩ | ⟨E8, hr7, hf⟩
    · have hPc := hP.sub (ws' := ([] : va_W)) [] rfl
      refine wx_siN (As := [.int r4]) (rest := []) ⟨hx, hb, hml, hown, hts⟩ (c_X10_requireFound_n l hl0 dC dI Y g   r4 (.inl r6) hr7) (va_cwS 1 hts gX10_overloaded_X10_requireFound_n rfl rfl rfl (by decide +kernel) ⟨Nat.le_of_ble_eq_true rfl, Nat.le_of_ble_eq_true rfl⟩) hK hPc hT hS rfl hl.1 rfl (Nat.le_of_ble_eq_true rfl) dX10_overloaded_16 ⟨Nat.le_of_ble_eq_true rfl, Nat.le_of_ble_eq_true rfl⟩ ?_
      have e0 := wke1 hf
      subst e0
      refine W.widen (k := 2) (n := 12) (Nat.le_of_ble_eq_true rfl) (Nat.le_of_ble_eq_true rfl) ?_
      refine vx_ret ?_
      exact W.iret (v := r6) hx hb hr (fun t ht hW => ⟨r6, rfl, rfl, ht⟩) (fun q h => absurd h List.not_mem_nil) dX10_overloaded_19
    · subst hf
      have hPc := hP.sub (ws' := ([] : va_W)) [] rfl
      refine wx_siX (As := [.int r4]) (rest := []) ⟨hx, hb, hml, hown, hts⟩ (c_X10_requireFound_n l hl0 dC dI Y g   r4 (.inr E8) hr7) (va_cwS 1 hts gX10_overloaded_X10_requireFound_n rfl rfl rfl (by decide +kernel) ⟨Nat.le_of_ble_eq_true rfl, Nat.le_of_ble_eq_true rfl⟩) hK hPc hT hS rfl hl.1 rfl (Nat.le_of_ble_eq_true rfl) dX10_overloaded_16 ⟨Nat.le_of_ble_eq_true rfl, Nat.le_of_ble_eq_true rfl⟩ (fun H1 ce q9 hz hq hce hcv hcl => ?_)
      exact vx_out (fun x h => (htab x h).elim) hlocks hce hcv hcl (fun t ht hvm => ⟨rfl, by rw [ht]; exact hz, fun q h => by rw [ht]; exact hq q h⟩) (fun q h => absurd h List.not_mem_nil) (Nat.le_of_ble_eq_true rfl) (Nat.le_of_ble_eq_true rfl)
  · subst hf
    have hPc : va_P (dC, dI) vwCl (wX10n Y a L_hasSnapshot L_formError L_commandError T_count T_weights T_strengths T_heights T_wages T_nightsToHeal B_accounts B_balances B_balancesAtClosing B_entries B_debited B_credited B_amounts C_nights C_netWidth C_shows C_fallen) s.heap := hP
    refine wx_vvX (As := [.int x1]) (rest := []) ⟨hx, hb, hml, hown, hts⟩ (c_X10_requireSet l hl0 dC dI Y g a L_hasSnapshot L_formError L_commandError T_count T_weights T_strengths T_heights T_wages T_nightsToHeal B_accounts B_balances B_balancesAtClosing B_entries B_debited B_credited B_amounts C_nights C_netWidth C_shows C_fallen x1 (.inr E3) hr1) (cwV 1 hts gX10_overloaded_X10_requireSet_n rfl rfl rfl (by decide +kernel) ⟨Nat.le_of_ble_eq_true rfl, Nat.le_of_ble_eq_true rfl⟩) hK hPc hT hS (va_recv hK hP (ci := 10) (q0 := 0) rfl rfl) rfl hl.1 rfl (Nat.le_of_ble_eq_true rfl) dX10_overloaded_2 ⟨Nat.le_of_ble_eq_true rfl, Nat.le_of_ble_eq_true rfl⟩ (fun H1 ce q9 hz hq hce hcv hcl => ?_)
    exact vx_out (fun x h => (htab x h).elim) hlocks hce hcv hcl (fun t ht hvm => ⟨rfl, by rw [ht]; exact hz, fun q h => by rw [ht]; exact hq q h⟩) (fun q h => absurd h List.not_mem_nil) (Nat.le_of_ble_eq_true rfl) (Nat.le_of_ble_eq_true rfl)
theorem lk_X10_accountByBalance_RX10_12_n : Cond.fieldLink RX10 12 "CircusLedger" "now" "LCircusLedger$Circus;" ∈ wsX10_accountByBalance_n := by decide +kernel
theorem lk_X10_accountByBalance_RX10_74_n : Cond.fieldLink RX10 74 "CircusLedger$Circus" "books" "LCircusLedger$Books;" ∈ wsX10_accountByBalance_n := by decide +kernel
theorem in_X10_accountByBalance_X10_n : ∀ w ∈ u_ws RX10 TX10 9, w ∈ wsX10_accountByBalance_n := by decide +kernel
theorem in_X10_accountByBalance_X3_n : ∀ w ∈ u_ws RX3 TX3 6, w ∈ wsX10_accountByBalance_n := by decide +kernel
set_option maxHeartbeats 4000000 in
set_option maxRecDepth 100000 in
theorem c_X10_accountByBalance_n (l : Launch) (hl0 : l.stackTraces = false) (dC : Nat → ClassId) (dI : Nat → Nat → Nat) (Y : Nat → ClassId) (g : Nat → Nat → Nat) (a : Nat → Nat) (L_hasSnapshot : Int32) (L_formError : Int32) (L_commandError : Int32) (T_count : Int32) (T_weights : Nat → Int32) (T_strengths : Nat → Int32) (T_heights : Nat → Int32) (T_wages : Nat → Int32) (T_nightsToHeal : Nat → Int32) (B_accounts : Int32) (B_balances : Nat → Int32) (B_balancesAtClosing : Nat → Int32) (B_entries : Int32) (B_debited : Nat → Int32) (B_credited : Nat → Int32) (B_amounts : Nat → Int32) (C_nights : Int32) (C_netWidth : Int32) (C_shows : Int32) (C_fallen : Int32) (x1 : Int32) (out : Int32 ⊕ String) (hf : f_X10_accountByBalance B_accounts B_balances x1 = some out) : vx_Met l yX10_accountByBalance wsX10_accountByBalance_n ({ frames := 9, cells := 1, slots := 6, locals := 140 } : Room) (va_Pc [.ref (a 0), .int x1] (wk_BT (dC, dI) Y g (wX10n Y a L_hasSnapshot L_formError L_commandError T_count T_weights T_strengths T_heights T_wages T_nightsToHeal B_accounts B_balances B_balancesAtClosing B_entries B_debited B_credited B_amounts C_nights C_netWidth C_shows C_fallen))) (wxQi out) (wxX out) 1 6 (fun _ => False) := by
  refine vx_ofW (cc := cX10_accountByBalance) (maxL := 2) (ret := (some .int)) (by decide) rfl ?_
  intro p e s m args below meth c s₁ B hml htab hv
  obtain ⟨rfl, ⟨hP, hK⟩, hT⟩ := hv
  have hx := B.exec
  have hb := B.bytes
  have hr := B.returns
  have hts := atoms_spec (ws := wsX10_accountByBalance_n) B.pre
  have hown : s.vm.findClass RX10 = some m.cls := findClass_of_methodNamed B.named
  have hlocks := B.notSynchronized
  have C0 : wk_C p s m _ meth c cX10_accountByBalance 2 (some .int) wsX10_accountByBalance_n RX10 := ⟨hx, hb, hml, hr, hlocks, hown, hts⟩
  have hP : va_P (dC, dI) vwCl [(a 0, .inr (10, [.ref (a 1), .ref (a 14), .ref (a 16), .int L_hasSnapshot, .ref (a 29), .ref (a 34), .int L_formError, .int L_commandError, .ref (a 38)])), (a 1, .inr (5, [.ref (a 2), .ref (a 8), .int C_nights, .int C_netWidth, .int C_shows, .int C_fallen])), (a 2, .inr (9, [.int T_count, .ref (a 3), .ref (a 4), .ref (a 5), .ref (a 6), .ref (a 7)])), (a 3, .inl (Y 0, 6, .inl T_weights)), (a 4, .inl (Y 0, 6, .inl T_strengths)), (a 5, .inl (Y 0, 6, .inl T_heights)), (a 6, .inl (Y 0, 6, .inl T_wages)), (a 7, .inl (Y 0, 6, .inl T_nightsToHeal)), (a 8, .inr (4, [.int B_accounts, .ref (a 9), .ref (a 10), .int B_entries, .ref (a 11), .ref (a 12), .ref (a 13)])), (a 9, .inl (Y 0, 11, .inl B_balances)), (a 10, .inl (Y 0, 11, .inl B_balancesAtClosing)), (a 11, .inl (Y 0, 60, .inl B_debited)), (a 12, .inl (Y 0, 60, .inl B_credited)), (a 13, .inl (Y 0, 60, .inl B_amounts))] s.heap := hP
  have hS : va_S (fun _ : Nat => False) s.heap s.heap [] := va_S.rf
  have hl := lv_entry ([.ref (a 0), .int x1]) (n := 2) (Nat.le_of_ble_eq_true rfl)
  rw [lg_entry_eq]
  generalize (lg_sl ([.ref (a 0), .int x1]) ++ List.replicate (2 - (lg_sl ([.ref (a 0), .int x1])).length) Slot.unset).toArray = ls at hl ⊢
  have hl : lv_has ls 2 [(0, .ref (a 0)), (1, .int x1)] := hl
  rw [f_X10_accountByBalance] at hf
  refine lv_aload_n hx hb dX10_accountByBalance_0 rfl (lv_at hl 0 rfl) ?_
  refine va_get (D := (dC, dI)) (ci := 10) (v := .ref (a 1)) (C := RX10) (T := TX10) (N := 9) hx hb hts in_X10_accountByBalance_X10_n hown hK hP 0 rfl rfl 0 (by decide) (hts _ lk_X10_accountByBalance_RX10_12_n) (fun _ h9 => h9) rfl dX10_accountByBalance_1 ?_
  refine va_get (D := (dC, dI)) (ci := 5) (v := .ref (a 8)) (C := RX3) (T := TX3) (N := 6) hx hb hts in_X10_accountByBalance_X3_n hown hK hP 1 rfl rfl 1 (by decide) (hts _ lk_X10_accountByBalance_RX10_74_n) (fun _ h9 => h9) rfl dX10_accountByBalance_4 ?_
  refine lv_iload_n hx hb dX10_accountByBalance_7 rfl (lv_at hl 1 rfl) ?_
  obtain ⟨r1, hr2, hf⟩ := wkb1_s hf
  have hPc := hP.sub (ws' := (wX2 Y (fun k => a (k + 8)) B_accounts B_balances B_balancesAtClosing B_entries B_debited B_credited B_amounts)) [8, 9, 10, 11, 12, 13] rfl
  refine wk_vi (As := [.int x1]) (rest := []) ⟨hx, hb, hml, hown, hts⟩ (c_X2_accountAtRank l dC dI Y (fun k => a (k + 8)) B_accounts B_balances B_balancesAtClosing B_entries B_debited B_credited B_amounts x1 r1 hr2) (cwV 1 hts gX10_accountByBalance_X2_accountAtRank_n rfl rfl rfl (by decide +kernel) ⟨Nat.le_of_ble_eq_true rfl, Nat.le_of_ble_eq_true rfl⟩) hK hPc (va_recv hK hP (ci := 4) (q0 := 8) rfl rfl) rfl hl.1 rfl (Nat.le_of_ble_eq_true rfl) dX10_accountByBalance_8 ⟨Nat.le_of_ble_eq_true rfl, Nat.le_of_ble_eq_true rfl⟩ ?_
  rcases wkx_s hf with ⟨r3, hr4, hf⟩ | ⟨E5, hr4, hf⟩
  · have hPc := hP.sub (ws' := ([] : va_W)) [] rfl
    refine wx_siN (As := [.int r1]) (rest := []) ⟨hx, hb, hml, hown, hts⟩ (c_X10_requireFound_n l hl0 dC dI Y g   r1 (.inl r3) hr4) (va_cwS 1 hts gX10_accountByBalance_X10_requireFound_n rfl rfl rfl (by decide +kernel) ⟨Nat.le_of_ble_eq_true rfl, Nat.le_of_ble_eq_true rfl⟩) hK hPc hT hS rfl hl.1 rfl (Nat.le_of_ble_eq_true rfl) dX10_accountByBalance_11 ⟨Nat.le_of_ble_eq_true rfl, Nat.le_of_ble_eq_true rfl⟩ ?_
    have e0 := wke1 hf
    subst e0
    refine W.widen (k := 1) (n := 6) (Nat.le_of_ble_eq_true rfl) (Nat.le_of_ble_eq_true rfl) ?_
    refine vx_ret ?_
    exact W.iret (v := r3) hx hb hr (fun t ht hW => ⟨r3, rfl, rfl, ht⟩) (fun q h => absurd h List.not_mem_nil) dX10_accountByBalance_14
  · subst hf
    have hPc := hP.sub (ws' := ([] : va_W)) [] rfl
    refine wx_siX (As := [.int r1]) (rest := []) ⟨hx, hb, hml, hown, hts⟩ (c_X10_requireFound_n l hl0 dC dI Y g   r1 (.inr E5) hr4) (va_cwS 1 hts gX10_accountByBalance_X10_requireFound_n rfl rfl rfl (by decide +kernel) ⟨Nat.le_of_ble_eq_true rfl, Nat.le_of_ble_eq_true rfl⟩) hK hPc hT hS rfl hl.1 rfl (Nat.le_of_ble_eq_true rfl) dX10_accountByBalance_11 ⟨Nat.le_of_ble_eq_true rfl, Nat.le_of_ble_eq_true rfl⟩ (fun H1 ce q9 hz hq hce hcv hcl => ?_)
    exact vx_out (fun x h => (htab x h).elim) hlocks hce hcv hcl (fun t ht hvm => ⟨rfl, by rw [ht]; exact hz, fun q h => by rw [ht]; exact hq q h⟩) (fun q h => absurd h List.not_mem_nil) (Nat.le_of_ble_eq_true rfl) (Nat.le_of_ble_eq_true rfl)
theorem lk_X10_errorPosition_RX10_40_n : Cond.fieldLink RX10 40 "CircusLedger" "formError" "I" ∈ wsX10_errorPosition_n := by decide +kernel
theorem in_X10_errorPosition_X10_n : ∀ w ∈ u_ws RX10 TX10 9, w ∈ wsX10_errorPosition_n := by decide +kernel
set_option maxHeartbeats 4000000 in
set_option maxRecDepth 100000 in
theorem c_X10_errorPosition_n (l : Launch) (hl0 : l.stackTraces = false) (dC : Nat → ClassId) (dI : Nat → Nat → Nat) (Y : Nat → ClassId) (g : Nat → Nat → Nat) (a : Nat → Nat) (L_hasSnapshot : Int32) (L_formError : Int32) (L_commandError : Int32) (T_count : Int32) (T_weights : Nat → Int32) (T_strengths : Nat → Int32) (T_heights : Nat → Int32) (T_wages : Nat → Int32) (T_nightsToHeal : Nat → Int32) (B_accounts : Int32) (B_balances : Nat → Int32) (B_balancesAtClosing : Nat → Int32) (B_entries : Int32) (B_debited : Nat → Int32) (B_credited : Nat → Int32) (B_amounts : Nat → Int32) (C_nights : Int32) (C_netWidth : Int32) (C_shows : Int32) (C_fallen : Int32)  (out : Int32 ⊕ String) (hf : f_X10_errorPosition L_formError = some out) : vx_Met l yX10_errorPosition wsX10_errorPosition_n ({ frames := 9, cells := 1, slots := 6, locals := 140 } : Room) (va_Pc [.ref (a 0)] (wk_BT (dC, dI) Y g (wX10n Y a L_hasSnapshot L_formError L_commandError T_count T_weights T_strengths T_heights T_wages T_nightsToHeal B_accounts B_balances B_balancesAtClosing B_entries B_debited B_credited B_amounts C_nights C_netWidth C_shows C_fallen))) (wxQi out) (wxX out) 1 6 (fun _ => False) := by
  refine vx_ofW (cc := cX10_errorPosition) (maxL := 1) (ret := (some .int)) (by decide) rfl ?_
  intro p e s m args below meth c s₁ B hml htab hv
  obtain ⟨rfl, ⟨hP, hK⟩, hT⟩ := hv
  have hx := B.exec
  have hb := B.bytes
  have hr := B.returns
  have hts := atoms_spec (ws := wsX10_errorPosition_n) B.pre
  have hown : s.vm.findClass RX10 = some m.cls := findClass_of_methodNamed B.named
  have hlocks := B.notSynchronized
  have C0 : wk_C p s m _ meth c cX10_errorPosition 1 (some .int) wsX10_errorPosition_n RX10 := ⟨hx, hb, hml, hr, hlocks, hown, hts⟩
  have hP : va_P (dC, dI) vwCl [(a 0, .inr (10, [.ref (a 1), .ref (a 14), .ref (a 16), .int L_hasSnapshot, .ref (a 29), .ref (a 34), .int L_formError, .int L_commandError, .ref (a 38)])), (a 1, .inr (5, [.ref (a 2), .ref (a 8), .int C_nights, .int C_netWidth, .int C_shows, .int C_fallen])), (a 2, .inr (9, [.int T_count, .ref (a 3), .ref (a 4), .ref (a 5), .ref (a 6), .ref (a 7)])), (a 3, .inl (Y 0, 6, .inl T_weights)), (a 4, .inl (Y 0, 6, .inl T_strengths)), (a 5, .inl (Y 0, 6, .inl T_heights)), (a 6, .inl (Y 0, 6, .inl T_wages)), (a 7, .inl (Y 0, 6, .inl T_nightsToHeal)), (a 8, .inr (4, [.int B_accounts, .ref (a 9), .ref (a 10), .int B_entries, .ref (a 11), .ref (a 12), .ref (a 13)])), (a 9, .inl (Y 0, 11, .inl B_balances)), (a 10, .inl (Y 0, 11, .inl B_balancesAtClosing)), (a 11, .inl (Y 0, 60, .inl B_debited)), (a 12, .inl (Y 0, 60, .inl B_credited)), (a 13, .inl (Y 0, 60, .inl B_amounts))] s.heap := hP
  have hS : va_S (fun _ : Nat => False) s.heap s.heap [] := va_S.rf
  have hl := lv_entry ([.ref (a 0)]) (n := 1) (Nat.le_of_ble_eq_true rfl)
  rw [lg_entry_eq]
  generalize (lg_sl ([.ref (a 0)]) ++ List.replicate (1 - (lg_sl ([.ref (a 0)])).length) Slot.unset).toArray = ls at hl ⊢
  have hl : lv_has ls 1 [(0, .ref (a 0))] := hl
  rw [f_X10_errorPosition] at hf
  refine lv_aload_n hx hb dX10_errorPosition_0 rfl (lv_at hl 0 rfl) ?_
  refine va_get (D := (dC, dI)) (ci := 10) (v := .int L_formError) (C := RX10) (T := TX10) (N := 9) hx hb hts in_X10_errorPosition_X10_n hown hK hP 0 rfl rfl 6 (by decide) (hts _ lk_X10_errorPosition_RX10_40_n) (fun _ h9 => h9) rfl dX10_errorPosition_1 ?_
  rcases wkx_s hf with ⟨r1, hr2, hf⟩ | ⟨E3, hr2, hf⟩
  · have hPc := hP.sub (ws' := ([] : va_W)) [] rfl
    refine wx_siN (As := [.int L_formError]) (rest := []) ⟨hx, hb, hml, hown, hts⟩ (c_X10_requireFound_n l hl0 dC dI Y g   L_formError (.inl r1) hr2) (va_cwS 1 hts gX10_errorPosition_X10_requireFound_n rfl rfl rfl (by decide +kernel) ⟨Nat.le_of_ble_eq_true rfl, Nat.le_of_ble_eq_true rfl⟩) hK hPc hT hS rfl hl.1 rfl (Nat.le_of_ble_eq_true rfl) dX10_errorPosition_4 ⟨Nat.le_of_ble_eq_true rfl, Nat.le_of_ble_eq_true rfl⟩ ?_
    have e0 := wke1 hf
    subst e0
    refine W.widen (k := 1) (n := 6) (Nat.le_of_ble_eq_true rfl) (Nat.le_of_ble_eq_true rfl) ?_
    refine vx_ret ?_
    exact W.iret (v := r1) hx hb hr (fun t ht hW => ⟨r1, rfl, rfl, ht⟩) (fun q h => absurd h List.not_mem_nil) dX10_errorPosition_7
  · subst hf
    have hPc := hP.sub (ws' := ([] : va_W)) [] rfl
    refine wx_siX (As := [.int L_formError]) (rest := []) ⟨hx, hb, hml, hown, hts⟩ (c_X10_requireFound_n l hl0 dC dI Y g   L_formError (.inr E3) hr2) (va_cwS 1 hts gX10_errorPosition_X10_requireFound_n rfl rfl rfl (by decide +kernel) ⟨Nat.le_of_ble_eq_true rfl, Nat.le_of_ble_eq_true rfl⟩) hK hPc hT hS rfl hl.1 rfl (Nat.le_of_ble_eq_true rfl) dX10_errorPosition_4 ⟨Nat.le_of_ble_eq_true rfl, Nat.le_of_ble_eq_true rfl⟩ (fun H1 ce q9 hz hq hce hcv hcl => ?_)
    exact vx_out (fun x h => (htab x h).elim) hlocks hce hcv hcl (fun t ht hvm => ⟨rfl, by rw [ht]; exact hz, fun q h => by rw [ht]; exact hq q h⟩) (fun q h => absurd h List.not_mem_nil) (Nat.le_of_ble_eq_true rfl) (Nat.le_of_ble_eq_true rfl)
theorem lk_X10_failedCommand_RX10_44_n : Cond.fieldLink RX10 44 "CircusLedger" "commandError" "I" ∈ wsX10_failedCommand_n := by decide +kernel
theorem in_X10_failedCommand_X10_n : ∀ w ∈ u_ws RX10 TX10 9, w ∈ wsX10_failedCommand_n := by decide +kernel
set_option maxHeartbeats 4000000 in
set_option maxRecDepth 100000 in
theorem c_X10_failedCommand_n (l : Launch) (hl0 : l.stackTraces = false) (dC : Nat → ClassId) (dI : Nat → Nat → Nat) (Y : Nat → ClassId) (g : Nat → Nat → Nat) (a : Nat → Nat) (L_hasSnapshot : Int32) (L_formError : Int32) (L_commandError : Int32) (T_count : Int32) (T_weights : Nat → Int32) (T_strengths : Nat → Int32) (T_heights : Nat → Int32) (T_wages : Nat → Int32) (T_nightsToHeal : Nat → Int32) (B_accounts : Int32) (B_balances : Nat → Int32) (B_balancesAtClosing : Nat → Int32) (B_entries : Int32) (B_debited : Nat → Int32) (B_credited : Nat → Int32) (B_amounts : Nat → Int32) (C_nights : Int32) (C_netWidth : Int32) (C_shows : Int32) (C_fallen : Int32)  (out : Int32 ⊕ String) (hf : f_X10_failedCommand L_commandError = some out) : vx_Met l yX10_failedCommand wsX10_failedCommand_n ({ frames := 9, cells := 1, slots := 6, locals := 140 } : Room) (va_Pc [.ref (a 0)] (wk_BT (dC, dI) Y g (wX10n Y a L_hasSnapshot L_formError L_commandError T_count T_weights T_strengths T_heights T_wages T_nightsToHeal B_accounts B_balances B_balancesAtClosing B_entries B_debited B_credited B_amounts C_nights C_netWidth C_shows C_fallen))) (wxQi out) (wxX out) 1 6 (fun _ => False) := by
  refine vx_ofW (cc := cX10_failedCommand) (maxL := 1) (ret := (some .int)) (by decide) rfl ?_
  intro p e s m args below meth c s₁ B hml htab hv
  obtain ⟨rfl, ⟨hP, hK⟩, hT⟩ := hv
  have hx := B.exec
  have hb := B.bytes
  have hr := B.returns
  have hts := atoms_spec (ws := wsX10_failedCommand_n) B.pre
  have hown : s.vm.findClass RX10 = some m.cls := findClass_of_methodNamed B.named
  have hlocks := B.notSynchronized
  have C0 : wk_C p s m _ meth c cX10_failedCommand 1 (some .int) wsX10_failedCommand_n RX10 := ⟨hx, hb, hml, hr, hlocks, hown, hts⟩
  have hP : va_P (dC, dI) vwCl [(a 0, .inr (10, [.ref (a 1), .ref (a 14), .ref (a 16), .int L_hasSnapshot, .ref (a 29), .ref (a 34), .int L_formError, .int L_commandError, .ref (a 38)])), (a 1, .inr (5, [.ref (a 2), .ref (a 8), .int C_nights, .int C_netWidth, .int C_shows, .int C_fallen])), (a 2, .inr (9, [.int T_count, .ref (a 3), .ref (a 4), .ref (a 5), .ref (a 6), .ref (a 7)])), (a 3, .inl (Y 0, 6, .inl T_weights)), (a 4, .inl (Y 0, 6, .inl T_strengths)), (a 5, .inl (Y 0, 6, .inl T_heights)), (a 6, .inl (Y 0, 6, .inl T_wages)), (a 7, .inl (Y 0, 6, .inl T_nightsToHeal)), (a 8, .inr (4, [.int B_accounts, .ref (a 9), .ref (a 10), .int B_entries, .ref (a 11), .ref (a 12), .ref (a 13)])), (a 9, .inl (Y 0, 11, .inl B_balances)), (a 10, .inl (Y 0, 11, .inl B_balancesAtClosing)), (a 11, .inl (Y 0, 60, .inl B_debited)), (a 12, .inl (Y 0, 60, .inl B_credited)), (a 13, .inl (Y 0, 60, .inl B_amounts))] s.heap := hP
  have hS : va_S (fun _ : Nat => False) s.heap s.heap [] := va_S.rf
  have hl := lv_entry ([.ref (a 0)]) (n := 1) (Nat.le_of_ble_eq_true rfl)
  rw [lg_entry_eq]
  generalize (lg_sl ([.ref (a 0)]) ++ List.replicate (1 - (lg_sl ([.ref (a 0)])).length) Slot.unset).toArray = ls at hl ⊢
  have hl : lv_has ls 1 [(0, .ref (a 0))] := hl
  rw [f_X10_failedCommand] at hf
  refine lv_aload_n hx hb dX10_failedCommand_0 rfl (lv_at hl 0 rfl) ?_
  refine va_get (D := (dC, dI)) (ci := 10) (v := .int L_commandError) (C := RX10) (T := TX10) (N := 9) hx hb hts in_X10_failedCommand_X10_n hown hK hP 0 rfl rfl 7 (by decide) (hts _ lk_X10_failedCommand_RX10_44_n) (fun _ h9 => h9) rfl dX10_failedCommand_1 ?_
  rcases wkx_s hf with ⟨r1, hr2, hf⟩ | ⟨E3, hr2, hf⟩
  · have hPc := hP.sub (ws' := ([] : va_W)) [] rfl
    refine wx_siN (As := [.int L_commandError]) (rest := []) ⟨hx, hb, hml, hown, hts⟩ (c_X10_requireFound_n l hl0 dC dI Y g   L_commandError (.inl r1) hr2) (va_cwS 1 hts gX10_failedCommand_X10_requireFound_n rfl rfl rfl (by decide +kernel) ⟨Nat.le_of_ble_eq_true rfl, Nat.le_of_ble_eq_true rfl⟩) hK hPc hT hS rfl hl.1 rfl (Nat.le_of_ble_eq_true rfl) dX10_failedCommand_4 ⟨Nat.le_of_ble_eq_true rfl, Nat.le_of_ble_eq_true rfl⟩ ?_
    have e0 := wke1 hf
    subst e0
    refine W.widen (k := 1) (n := 6) (Nat.le_of_ble_eq_true rfl) (Nat.le_of_ble_eq_true rfl) ?_
    refine vx_ret ?_
    exact W.iret (v := r1) hx hb hr (fun t ht hW => ⟨r1, rfl, rfl, ht⟩) (fun q h => absurd h List.not_mem_nil) dX10_failedCommand_7
  · subst hf
    have hPc := hP.sub (ws' := ([] : va_W)) [] rfl
    refine wx_siX (As := [.int L_commandError]) (rest := []) ⟨hx, hb, hml, hown, hts⟩ (c_X10_requireFound_n l hl0 dC dI Y g   L_commandError (.inr E3) hr2) (va_cwS 1 hts gX10_failedCommand_X10_requireFound_n rfl rfl rfl (by decide +kernel) ⟨Nat.le_of_ble_eq_true rfl, Nat.le_of_ble_eq_true rfl⟩) hK hPc hT hS rfl hl.1 rfl (Nat.le_of_ble_eq_true rfl) dX10_failedCommand_4 ⟨Nat.le_of_ble_eq_true rfl, Nat.le_of_ble_eq_true rfl⟩ (fun H1 ce q9 hz hq hce hcv hcl => ?_)
    exact vx_out (fun x h => (htab x h).elim) hlocks hce hcv hcl (fun t ht hvm => ⟨rfl, by rw [ht]; exact hz, fun q h => by rw [ht]; exact hq q h⟩) (fun q h => absurd h List.not_mem_nil) (Nat.le_of_ble_eq_true rfl) (Nat.le_of_ble_eq_true rfl)
theorem tw_X10_undo_167_n : Cond.classLink RX10 167 "java/util/NoSuchElementException" ∈ wsX10_undo_n ∧ Cond.initialized "java/util/NoSuchElementException" ∈ wsX10_undo_n ∧ ∀ w ∈ vx_atNS.filter goodWord, w ∈ wsX10_undo_n := ⟨by decide +kernel, by decide +kernel, by decide +kernel⟩
theorem lk_X10_undo_RX10_12_n : Cond.fieldLink RX10 12 "CircusLedger" "now" "LCircusLedger$Circus;" ∈ wsX10_undo_n := by decide +kernel
theorem lk_X10_undo_RX10_19_n : Cond.fieldLink RX10 19 "CircusLedger" "history" "LCircusLedger$History;" ∈ wsX10_undo_n := by decide +kernel
theorem lk_X10_undo_RX10_350_n : Cond.fieldLink RX10 350 "CircusLedger$History" "count" "I" ∈ wsX10_undo_n := by decide +kernel
theorem in_X10_undo_X10_n : ∀ w ∈ u_ws RX10 TX10 9, w ∈ wsX10_undo_n := by decide +kernel
theorem in_X10_undo_X5_n : ∀ w ∈ u_ws RX5 TX5 3, w ∈ wsX10_undo_n := by decide +kernel
set_option maxHeartbeats 4000000 in
set_option maxRecDepth 100000 in
theorem c_X10_undo_n (l : Launch) (hl0 : l.stackTraces = false) (dC : Nat → ClassId) (dI : Nat → Nat → Nat) (Y : Nat → ClassId) (g : Nat → Nat → Nat) (a : Nat → Nat) (h : Nat → Nat → Nat) (L_hasSnapshot : Int32) (L_formError : Int32) (L_commandError : Int32) (T_count : Int32) (T_weights : Nat → Int32) (T_strengths : Nat → Int32) (T_heights : Nat → Int32) (T_wages : Nat → Int32) (T_nightsToHeal : Nat → Int32) (B_accounts : Int32) (B_balances : Nat → Int32) (B_balancesAtClosing : Nat → Int32) (B_entries : Int32) (B_debited : Nat → Int32) (B_credited : Nat → Int32) (B_amounts : Nat → Int32) (C_nights : Int32) (C_netWidth : Int32) (C_shows : Int32) (C_fallen : Int32) (H_c : Nat → sC) (H_next : Int32) (H_count : Int32)  (sz : Nat) (out : (Int32 × Int32 × (Nat → Int32) × (Nat → Int32) × (Nat → Int32) × (Nat → Int32) × (Nat → Int32) × Int32 × (Nat → Int32) × (Nat → Int32) × Int32 × (Nat → Int32) × (Nat → Int32) × (Nat → Int32) × Int32 × Int32 × Int32 × Int32 × Int32 × Int32) ⊕ (String × Int32 × (Nat → Int32) × (Nat → Int32) × (Nat → Int32) × (Nat → Int32) × (Nat → Int32) × Int32 × (Nat → Int32) × (Nat → Int32) × Int32 × (Nat → Int32) × (Nat → Int32) × (Nat → Int32) × Int32 × Int32 × Int32 × Int32 × Int32 × Int32)) (hf : f_X10_undo T_count T_weights T_strengths T_heights T_wages T_nightsToHeal B_accounts B_balances B_balancesAtClosing B_entries B_debited B_credited B_amounts C_nights C_netWidth C_shows C_fallen H_c H_next H_count = some out) : vx_Met l yX10_undo wsX10_undo_n ({ frames := 8, cells := 1, slots := 6, locals := 284 } : Room) (va_Pc [.ref (a 0)] (wk_ET (dC, dI) Y g (wX10nh Y a h L_hasSnapshot L_formError L_commandError T_count T_weights T_strengths T_heights T_wages T_nightsToHeal B_accounts B_balances B_balancesAtClosing B_entries B_debited B_credited B_amounts C_nights C_netWidth C_shows C_fallen H_c H_next H_count) sz)) (wyN out (fun x9 => va_Qi (fun r2 (_ : Unit) => r2 = x9.1) (fun _ t => wk_X (dC, dI) Y (wX10nh Y a h L_hasSnapshot L_formError L_commandError (x9.2.1) (x9.2.2.1) (x9.2.2.2.1) (x9.2.2.2.2.1) (x9.2.2.2.2.2.1) (x9.2.2.2.2.2.2.1) (x9.2.2.2.2.2.2.2.1) (x9.2.2.2.2.2.2.2.2.1) (x9.2.2.2.2.2.2.2.2.2.1) (x9.2.2.2.2.2.2.2.2.2.2.1) (x9.2.2.2.2.2.2.2.2.2.2.2.1) (x9.2.2.2.2.2.2.2.2.2.2.2.2.1) (x9.2.2.2.2.2.2.2.2.2.2.2.2.2.1) (x9.2.2.2.2.2.2.2.2.2.2.2.2.2.2.1) (x9.2.2.2.2.2.2.2.2.2.2.2.2.2.2.2.1) (x9.2.2.2.2.2.2.2.2.2.2.2.2.2.2.2.2.1) (x9.2.2.2.2.2.2.2.2.2.2.2.2.2.2.2.2.2.1) H_c (x9.2.2.2.2.2.2.2.2.2.2.2.2.2.2.2.2.2.2.1) (x9.2.2.2.2.2.2.2.2.2.2.2.2.2.2.2.2.2.2.2)) (va_A (wX10nh Y a h L_hasSnapshot L_formError L_commandError T_count T_weights T_strengths T_heights T_wages T_nightsToHeal B_accounts B_balances B_balancesAtClosing B_entries B_debited B_credited B_amounts C_nights C_netWidth C_shows C_fallen H_c H_next H_count) sz) t) (va_A (wX10nh Y a h L_hasSnapshot L_formError L_commandError T_count T_weights T_strengths T_heights T_wages T_nightsToHeal B_accounts B_balances B_balancesAtClosing B_entries B_debited B_credited B_amounts C_nights C_netWidth C_shows C_fallen H_c H_next H_count) sz))) (wyX out (fun y9 E9 t9 => E9 = y9.1 ∧ wk_X (dC, dI) Y (wX10nh Y a h L_hasSnapshot L_formError L_commandError (y9.2.1) (y9.2.2.1) (y9.2.2.2.1) (y9.2.2.2.2.1) (y9.2.2.2.2.2.1) (y9.2.2.2.2.2.2.1) (y9.2.2.2.2.2.2.2.1) (y9.2.2.2.2.2.2.2.2.1) (y9.2.2.2.2.2.2.2.2.2.1) (y9.2.2.2.2.2.2.2.2.2.2.1) (y9.2.2.2.2.2.2.2.2.2.2.2.1) (y9.2.2.2.2.2.2.2.2.2.2.2.2.1) (y9.2.2.2.2.2.2.2.2.2.2.2.2.2.1) (y9.2.2.2.2.2.2.2.2.2.2.2.2.2.2.1) (y9.2.2.2.2.2.2.2.2.2.2.2.2.2.2.2.1) (y9.2.2.2.2.2.2.2.2.2.2.2.2.2.2.2.2.1) (y9.2.2.2.2.2.2.2.2.2.2.2.2.2.2.2.2.2.1) H_c (y9.2.2.2.2.2.2.2.2.2.2.2.2.2.2.2.2.2.2.1) (y9.2.2.2.2.2.2.2.2.2.2.2.2.2.2.2.2.2.2.2)) (va_A (wX10nh Y a h L_hasSnapshot L_formError L_commandError T_count T_weights T_strengths T_heights T_wages T_nightsToHeal B_accounts B_balances B_balancesAtClosing B_entries B_debited B_credited B_amounts C_nights C_netWidth C_shows C_fallen H_c H_next H_count) sz) t9) (va_A (wX10nh Y a h L_hasSnapshot L_formError L_commandError T_count T_weights T_strengths T_heights T_wages T_nightsToHeal B_accounts B_balances B_balancesAtClosing B_entries B_debited B_credited B_amounts C_nights C_netWidth C_shows C_fallen H_c H_next H_count) sz)) 1 6 (va_A (wX10nh Y a h L_hasSnapshot L_formError L_commandError T_count T_weights T_strengths T_heights T_wages T_nightsToHeal B_accounts B_balances B_balancesAtClosing B_entries B_debited B_credited B_amounts C_nights C_netWidth C_shows C_fallen H_c H_next H_count) sz) := by
  refine vx_ofW (cc := cX10_undo) (maxL := 1) (ret := (some .int)) (by decide) rfl ?_
  intro p e s m args below meth c s₁ B hml htab hv
  obtain ⟨rfl, ⟨hsz, hP, hK, hD0⟩, hT⟩ := hv
  have hx := B.exec
  have hb := B.bytes
  have hr := B.returns
  have hts := atoms_spec (ws := wsX10_undo_n) B.pre
  have hown : s.vm.findClass RX10 = some m.cls := findClass_of_methodNamed B.named
  have hlocks := B.notSynchronized
  have C0 : wk_C p s m _ meth c cX10_undo 1 (some .int) wsX10_undo_n RX10 := ⟨hx, hb, hml, hr, hlocks, hown, hts⟩
  subst hsz
  have hD := hD0.self (sz := s.heap.size)
  generalize hAe : va_A (wX10nh Y a h L_hasSnapshot L_formError L_commandError T_count T_weights T_strengths T_heights T_wages T_nightsToHeal B_accounts B_balances B_balancesAtClosing B_entries B_debited B_credited B_amounts C_nights C_netWidth C_shows C_fallen H_c H_next H_count) s.heap.size = A at hD hT ⊢
  have hA : ∀ q : Nat, s.heap.size ≤ q → A q := fun q h => by rw [← hAe]; exact Or.inr h
  have hS : va_S A s.heap s.heap [] := va_S.rf
  obtain ⟨H, hHe⟩ : ∃ H, H = s.heap := ⟨_, rfl⟩
  have hS : va_S A s.heap H [] := by rw [hHe]; exact hS
  have hP : va_P (dC, dI) vwCl ([(a 0, .inr (10, [.ref (a 1), .ref (a 14), .ref (a 16), .int L_hasSnapshot, .ref (a 29), .ref (a 34), .int L_formError, .int L_commandError, .ref (a 38)])), (a 1, .inr (5, [.ref (a 2), .ref (a 8), .int C_nights, .int C_netWidth, .int C_shows, .int C_fallen])), (a 2, .inr (9, [.int T_count, .ref (a 3), .ref (a 4), .ref (a 5), .ref (a 6), .ref (a 7)])), (a 3, .inl (Y 0, 6, .inl T_weights)), (a 4, .inl (Y 0, 6, .inl T_strengths)), (a 5, .inl (Y 0, 6, .inl T_heights)), (a 6, .inl (Y 0, 6, .inl T_wages)), (a 7, .inl (Y 0, 6, .inl T_nightsToHeal)), (a 8, .inr (4, [.int B_accounts, .ref (a 9), .ref (a 10), .int B_entries, .ref (a 11), .ref (a 12), .ref (a 13)])), (a 9, .inl (Y 0, 11, .inl B_balances)), (a 10, .inl (Y 0, 11, .inl B_balancesAtClosing)), (a 11, .inl (Y 0, 60, .inl B_debited)), (a 12, .inl (Y 0, 60, .inl B_credited)), (a 13, .inl (Y 0, 60, .inl B_amounts)), (a 14, .inr (6, [.ref (a 15), .int H_next, .int H_count])), (a 15, .inl (Y 3, 9, .inr (.inr (.inr (.inr (fun k => some (h k 0)))))))] ++ (wC Y (h 0) (H_c 0) ++ (wC Y (h 1) (H_c 1) ++ (wC Y (h 2) (H_c 2) ++ (wC Y (h 3) (H_c 3) ++ (wC Y (h 4) (H_c 4) ++ (wC Y (h 5) (H_c 5) ++ (wC Y (h 6) (H_c 6) ++ (wC Y (h 7) (H_c 7) ++ (wC Y (h 8) (H_c 8))))))))))) H := by rw [hHe]; exact hP
  have hD : va_D A ([(a 0, .inr (10, [.ref (a 1), .ref (a 14), .ref (a 16), .int L_hasSnapshot, .ref (a 29), .ref (a 34), .int L_formError, .int L_commandError, .ref (a 38)])), (a 1, .inr (5, [.ref (a 2), .ref (a 8), .int C_nights, .int C_netWidth, .int C_shows, .int C_fallen])), (a 2, .inr (9, [.int T_count, .ref (a 3), .ref (a 4), .ref (a 5), .ref (a 6), .ref (a 7)])), (a 3, .inl (Y 0, 6, .inl T_weights)), (a 4, .inl (Y 0, 6, .inl T_strengths)), (a 5, .inl (Y 0, 6, .inl T_heights)), (a 6, .inl (Y 0, 6, .inl T_wages)), (a 7, .inl (Y 0, 6, .inl T_nightsToHeal)), (a 8, .inr (4, [.int B_accounts, .ref (a 9), .ref (a 10), .int B_entries, .ref (a 11), .ref (a 12), .ref (a 13)])), (a 9, .inl (Y 0, 11, .inl B_balances)), (a 10, .inl (Y 0, 11, .inl B_balancesAtClosing)), (a 11, .inl (Y 0, 60, .inl B_debited)), (a 12, .inl (Y 0, 60, .inl B_credited)), (a 13, .inl (Y 0, 60, .inl B_amounts)), (a 14, .inr (6, [.ref (a 15), .int H_next, .int H_count])), (a 15, .inl (Y 3, 9, .inr (.inr (.inr (.inr (fun k => some (h k 0)))))))] ++ (wC Y (h 0) (H_c 0) ++ (wC Y (h 1) (H_c 1) ++ (wC Y (h 2) (H_c 2) ++ (wC Y (h 3) (H_c 3) ++ (wC Y (h 4) (H_c 4) ++ (wC Y (h 5) (H_c 5) ++ (wC Y (h 6) (H_c 6) ++ (wC Y (h 7) (H_c 7) ++ (wC Y (h 8) (H_c 8))))))))))) := hD
  obtain ⟨locs, hlo⟩ : ∃ locs : List Loc, locs = [] := ⟨_, rfl⟩
  have hS : va_S A s.heap H locs := by rw [hlo]; exact hS
  have hl := lv_entry ([.ref (a 0)]) (n := 1) (Nat.le_of_ble_eq_true rfl)
  rw [lg_entry_eq]
  generalize (lg_sl ([.ref (a 0)]) ++ List.replicate (1 - (lg_sl ([.ref (a 0)])).length) Slot.unset).toArray = ls at hl ⊢
  have hl : lv_has ls 1 [(0, .ref (a 0))] := hl
  refine wk_start hHe hlo ?_
  rw [f_X10_undo] at hf
  refine lv_aload_n hx hb dX10_undo_0 rfl (lv_at hl 0 rfl) ?_
  refine va_get (D := (dC, dI)) (ci := 10) (v := .ref (a 14)) (C := RX10) (T := TX10) (N := 9) hx hb hts in_X10_undo_X10_n hown hK hP 0 rfl rfl 1 (by decide) (hts _ lk_X10_undo_RX10_19_n) (fun _ h9 => h9) rfl dX10_undo_1 ?_
  refine va_get (D := (dC, dI)) (ci := 6) (v := .int H_count) (C := RX5) (T := TX5) (N := 3) hx hb hts in_X10_undo_X5_n hown hK hP 14 rfl rfl 2 (by decide) (hts _ lk_X10_undo_RX10_350_n) (fun _ h9 => h9) rfl dX10_undo_4 ?_
  refine lv_if_ne (tgt := 21) hx hb dX10_undo_7 (by decide) (fun q1 => ?_) (fun q1 => ?_)
  · have hf := wk_f hf q1
    refine lv_aload_n hx hb dX10_undo_21 rfl (lv_at hl 0 rfl) ?_
    refine va_get (D := (dC, dI)) (ci := 10) (v := .ref (a 14)) (C := RX10) (T := TX10) (N := 9) hx hb hts in_X10_undo_X10_n hown hK hP 0 rfl rfl 1 (by decide) (hts _ lk_X10_undo_RX10_19_n) (fun _ h9 => h9) rfl dX10_undo_22 ?_
    refine lv_aload_n hx hb dX10_undo_25 rfl (lv_at hl 0 rfl) ?_
    refine va_get (D := (dC, dI)) (ci := 10) (v := .ref (a 1)) (C := RX10) (T := TX10) (N := 9) hx hb hts in_X10_undo_X10_n hown hK hP 0 rfl rfl 0 (by decide) (hts _ lk_X10_undo_RX10_12_n) (fun _ h9 => h9) rfl dX10_undo_26 ?_
    obtain ⟨r2, w3, w4, w5, w6, w7, w8, w9, w10, w11, w12, w13, w14, w15, w16, w17, w18, w19, w20, w21, hr22, hf⟩ := wkb20_s hf
    refine wk_evi (As := [.ref (a 1)]) (rest := []) (wc := ((wX5 Y (fun k => a (k + 14)) h H_c H_next H_count) ++ (wX3 Y (fun k => a (k + 1)) T_count T_weights T_strengths T_heights T_wages T_nightsToHeal B_accounts B_balances B_balancesAtClosing B_entries B_debited B_credited B_amounts C_nights C_netWidth C_shows C_fallen))) (w1 := ((wX5 Y (fun k => a (k + 14)) h H_c w3 w4) ++ (wX3 Y (fun k => a (k + 1)) w5 w6 w7 w8 w9 w10 w11 w12 w13 w14 w15 w16 w17 w18 w19 w20 w21))) (wr := [(a 0, .inr (10, [.ref (a 1), .ref (a 14), .ref (a 16), .int L_hasSnapshot, .ref (a 29), .ref (a 34), .int L_formError, .int L_commandError, .ref (a 38)]))]) ⟨hx, hb, hml, hown, hts⟩ (c_X5_goBack l dC dI Y (fun k => a (k + 14)) (fun k => a (k + 1)) h H_c H_next H_count T_count T_weights T_strengths T_heights T_wages T_nightsToHeal B_accounts B_balances B_balancesAtClosing B_entries B_debited B_credited B_amounts C_nights C_netWidth C_shows C_fallen H.size r2 w3 w4 w5 w6 w7 w8 w9 w10 w11 w12 w13 w14 w15 w16 w17 w18 w19 w20 w21 hr22) (cwV 1 hts gX10_undo_X5_goBack_n rfl rfl rfl (by decide +kernel) ⟨Nat.le_of_ble_eq_true rfl, Nat.le_of_ble_eq_true rfl⟩) hK hP hD hS hA [14, 15, 16, 17, 18, 19, 20, 21, 22, 23, 24, 25, 26, 27, 28, 29, 30, 31, 32, 33, 34, 35, 36, 37, 38, 39, 40, 41, 42, 43, 44, 45, 46, 47, 48, 49, 50, 51, 52, 53, 54, 55, 56, 57, 58, 59, 60, 61, 62, 63, 64, 65, 66, 67, 68, 69, 70, 71, 72, 73, 74, 75, 76, 77, 78, 79, 80, 81, 82, 83, 84, 85, 86, 87, 88, 89, 90, 91, 92, 93, 94, 95, 96, 97, 98, 99, 100, 101, 102, 103, 104, 105, 106, 107, 108, 109, 110, 111, 112, 113, 114, 115, 116, 117, 118, 119, 120, 121, 122, 123, 124, 125, 126, 127, 128, 129, 130, 131, 132, 1, 2, 3, 4, 5, 6, 7, 8, 9, 10, 11, 12, 13] [0] rfl rfl (by decide +kernel) (by decide +kernel) (by decide +kernel) (va_recv hK hP (ci := 6) (q0 := 14) rfl rfl) rfl hl.1 rfl (Nat.le_of_ble_eq_true rfl) dX10_undo_29 ⟨Nat.le_of_ble_eq_true rfl, Nat.le_of_ble_eq_true rfl⟩ (fun H locs hP hD hS => ?_)
    have hP : va_P (dC, dI) vwCl ([(a 0, .inr (10, [.ref (a 1), .ref (a 14), .ref (a 16), .int L_hasSnapshot, .ref (a 29), .ref (a 34), .int L_formError, .int L_commandError, .ref (a 38)])), (a 14, .inr (6, [.ref (a 15), .int w3, .int w4])), (a 15, .inl (Y 3, 9, .inr (.inr (.inr (.inr (fun k => some (h k 0)))))))] ++ (wC Y (h 0) (H_c 0) ++ (wC Y (h 1) (H_c 1) ++ (wC Y (h 2) (H_c 2) ++ (wC Y (h 3) (H_c 3) ++ (wC Y (h 4) (H_c 4) ++ (wC Y (h 5) (H_c 5) ++ (wC Y (h 6) (H_c 6) ++ (wC Y (h 7) (H_c 7) ++ (wC Y (h 8) (H_c 8) ++ ([(a 1, .inr (5, [.ref (a 2), .ref (a 8), .int w18, .int w19, .int w20, .int w21])), (a 2, .inr (9, [.int w5, .ref (a 3), .ref (a 4), .ref (a 5), .ref (a 6), .ref (a 7)])), (a 3, .inl (Y 0, 6, .inl w6)), (a 4, .inl (Y 0, 6, .inl w7)), (a 5, .inl (Y 0, 6, .inl w8)), (a 6, .inl (Y 0, 6, .inl w9)), (a 7, .inl (Y 0, 6, .inl w10)), (a 8, .inr (4, [.int w11, .ref (a 9), .ref (a 10), .int w14, .ref (a 11), .ref (a 12), .ref (a 13)])), (a 9, .inl (Y 0, 11, .inl w12)), (a 10, .inl (Y 0, 11, .inl w13)), (a 11, .inl (Y 0, 60, .inl w15)), (a 12, .inl (Y 0, 60, .inl w16)), (a 13, .inl (Y 0, 60, .inl w17))]))))))))))) H := hP
    have hD : va_D A ([(a 0, .inr (10, [.ref (a 1), .ref (a 14), .ref (a 16), .int L_hasSnapshot, .ref (a 29), .ref (a 34), .int L_formError, .int L_commandError, .ref (a 38)])), (a 14, .inr (6, [.ref (a 15), .int w3, .int w4])), (a 15, .inl (Y 3, 9, .inr (.inr (.inr (.inr (fun k => some (h k 0)))))))] ++ (wC Y (h 0) (H_c 0) ++ (wC Y (h 1) (H_c 1) ++ (wC Y (h 2) (H_c 2) ++ (wC Y (h 3) (H_c 3) ++ (wC Y (h 4) (H_c 4) ++ (wC Y (h 5) (H_c 5) ++ (wC Y (h 6) (H_c 6) ++ (wC Y (h 7) (H_c 7) ++ (wC Y (h 8) (H_c 8) ++ ([(a 1, .inr (5, [.ref (a 2), .ref (a 8), .int w18, .int w19, .int w20, .int w21])), (a 2, .inr (9, [.int w5, .ref (a 3), .ref (a 4), .ref (a 5), .ref (a 6), .ref (a 7)])), (a 3, .inl (Y 0, 6, .inl w6)), (a 4, .inl (Y 0, 6, .inl w7)), (a 5, .inl (Y 0, 6, .inl w8)), (a 6, .inl (Y 0, 6, .inl w9)), (a 7, .inl (Y 0, 6, .inl w10)), (a 8, .inr (4, [.int w11, .ref (a 9), .ref (a 10), .int w14, .ref (a 11), .ref (a 12), .ref (a 13)])), (a 9, .inl (Y 0, 11, .inl w12)), (a 10, .inl (Y 0, 11, .inl w13)), (a 11, .inl (Y 0, 60, .inl w15)), (a 12, .inl (Y 0, 60, .inl w16)), (a 13, .inl (Y 0, 60, .inl w17))]))))))))))) := hD
    have e0 := wke1 hf
    subst e0
    have hP9 := hP.sub (ws' := (wX10nh Y a h L_hasSnapshot L_formError L_commandError w5 w6 w7 w8 w9 w10 w11 w12 w13 w14 w15 w16 w17 w18 w19 w20 w21 H_c w3 w4)) [0, 120, 121, 122, 123, 124, 125, 126, 127, 128, 129, 130, 131, 132, 1, 2, 3, 4, 5, 6, 7, 8, 9, 10, 11, 12, 13, 14, 15, 16, 17, 18, 19, 20, 21, 22, 23, 24, 25, 26, 27, 28, 29, 30, 31, 32, 33, 34, 35, 36, 37, 38, 39, 40, 41, 42, 43, 44, 45, 46, 47, 48, 49, 50, 51, 52, 53, 54, 55, 56, 57, 58, 59, 60, 61, 62, 63, 64, 65, 66, 67, 68, 69, 70, 71, 72, 73, 74, 75, 76, 77, 78, 79, 80, 81, 82, 83, 84, 85, 86, 87, 88, 89, 90, 91, 92, 93, 94, 95, 96, 97, 98, 99, 100, 101, 102, 103, 104, 105, 106, 107, 108, 109, 110, 111, 112, 113, 114, 115, 116, 117, 118, 119] rfl
    have hD9 := hD.sub (ws' := (wX10nh Y a h L_hasSnapshot L_formError L_commandError w5 w6 w7 w8 w9 w10 w11 w12 w13 w14 w15 w16 w17 w18 w19 w20 w21 H_c w3 w4)) [0, 120, 121, 122, 123, 124, 125, 126, 127, 128, 129, 130, 131, 132, 1, 2, 3, 4, 5, 6, 7, 8, 9, 10, 11, 12, 13, 14, 15, 16, 17, 18, 19, 20, 21, 22, 23, 24, 25, 26, 27, 28, 29, 30, 31, 32, 33, 34, 35, 36, 37, 38, 39, 40, 41, 42, 43, 44, 45, 46, 47, 48, 49, 50, 51, 52, 53, 54, 55, 56, 57, 58, 59, 60, 61, 62, 63, 64, 65, 66, 67, 68, 69, 70, 71, 72, 73, 74, 75, 76, 77, 78, 79, 80, 81, 82, 83, 84, 85, 86, 87, 88, 89, 90, 91, 92, 93, 94, 95, 96, 97, 98, 99, 100, 101, 102, 103, 104, 105, 106, 107, 108, 109, 110, 111, 112, 113, 114, 115, 116, 117, 118, 119] (by decide +kernel) rfl
    refine W.widen (k := 1) (n := 6) (Nat.le_of_ble_eq_true rfl) (Nat.le_of_ble_eq_true rfl) ?_
    refine vx_ret ?_
    exact W.iret (v := r2) hx hb hr (fun t ht hW => ⟨⟨r2, (), rfl, rfl, by rw [ht]; exact hP9, va_K.moved hW.alike hK, hD9⟩, hS.F ht⟩) hS.2.2 dX10_undo_32
  · have hf := wk_t hf q1
    have e0 := wke1 hf
    subst e0
    have hP9 := hP.sub (ws' := (wX10nh Y a h L_hasSnapshot L_formError L_commandError T_count T_weights T_strengths T_heights T_wages T_nightsToHeal B_accounts B_balances B_balancesAtClosing B_entries B_debited B_credited B_amounts C_nights C_netWidth C_shows C_fallen H_c H_next H_count)) [0, 1, 2, 3, 4, 5, 6, 7, 8, 9, 10, 11, 12, 13, 14, 15, 16, 17, 18, 19, 20, 21, 22, 23, 24, 25, 26, 27, 28, 29, 30, 31, 32, 33, 34, 35, 36, 37, 38, 39, 40, 41, 42, 43, 44, 45, 46, 47, 48, 49, 50, 51, 52, 53, 54, 55, 56, 57, 58, 59, 60, 61, 62, 63, 64, 65, 66, 67, 68, 69, 70, 71, 72, 73, 74, 75, 76, 77, 78, 79, 80, 81, 82, 83, 84, 85, 86, 87, 88, 89, 90, 91, 92, 93, 94, 95, 96, 97, 98, 99, 100, 101, 102, 103, 104, 105, 106, 107, 108, 109, 110, 111, 112, 113, 114, 115, 116, 117, 118, 119, 120, 121, 122, 123, 124, 125, 126, 127, 128, 129, 130, 131, 132] rfl
    have hD9 := hD.sub (ws' := (wX10nh Y a h L_hasSnapshot L_formError L_commandError T_count T_weights T_strengths T_heights T_wages T_nightsToHeal B_accounts B_balances B_balancesAtClosing B_entries B_debited B_credited B_amounts C_nights C_netWidth C_shows C_fallen H_c H_next H_count)) [0, 1, 2, 3, 4, 5, 6, 7, 8, 9, 10, 11, 12, 13, 14, 15, 16, 17, 18, 19, 20, 21, 22, 23, 24, 25, 26, 27, 28, 29, 30, 31, 32, 33, 34, 35, 36, 37, 38, 39, 40, 41, 42, 43, 44, 45, 46, 47, 48, 49, 50, 51, 52, 53, 54, 55, 56, 57, 58, 59, 60, 61, 62, 63, 64, 65, 66, 67, 68, 69, 70, 71, 72, 73, 74, 75, 76, 77, 78, 79, 80, 81, 82, 83, 84, 85, 86, 87, 88, 89, 90, 91, 92, 93, 94, 95, 96, 97, 98, 99, 100, 101, 102, 103, 104, 105, 106, 107, 108, 109, 110, 111, 112, 113, 114, 115, 116, 117, 118, 119, 120, 121, 122, 123, 124, 125, 126, 127, 128, 129, 130, 131, 132] (by decide +kernel) rfl
    refine vx_throwNW (rest := []) (text := "there is nothing to undo") (sa := g 5 6) (A := A) hx hb hl0 hown (hts _ tw_X10_undo_167_n.1) (hts _ tw_X10_undo_167_n.2.1) ((wk_T.thr hT).2.2.1 6 (by decide)) (vx_hat (B := wk_tb "java/util/NoSuchElementException") (fun w h => hts w (tw_X10_undo_167_n.2.2 w h)) (by decide +kernel) (wk_tbp hT 5 (by decide) rfl)) (by decide +kernel) (wk_T.thr hT).1 (wk_T.thr hT).2.1 hS (hl.1.trans hml.symm) dX10_undo_10 dX10_undo_13 dX10_undo_14 dX10_undo_17 dX10_undo_20 (fun x h => (htab x h).elim) (Nat.le_of_ble_eq_true rfl) (Nat.le_of_ble_eq_true rfl) (Nat.le_of_ble_eq_true rfl) (Nat.le_of_ble_eq_true rfl) hlocks (fun t hvm hz hq => ⟨⟨rfl, wy_k hP9 hK hD9 hq rfl hvm⟩, wy_F hS hz hq rfl⟩) hS.2.2 (Nat.le_of_ble_eq_true rfl) (Nat.le_of_ble_eq_true rfl)
