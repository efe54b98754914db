theorem ow_X7_nights_141 : Cond.fieldLink RX7 141 "WrongWord$Moment" "night" "I" ∈ wsX7_nights := List.mem_cons_of_mem _ (List.mem_append_left _ (List.mem_of_getElem? (l := wsX7_nights_o) (i := 4) rfl))
theorem ow_X7_nights_105 : Cond.constant RX7 105 (-1000003) ∈ wsX7_nights := List.mem_cons_of_mem _ (List.mem_append_left _ (List.mem_of_getElem? (l := wsX7_nights_o) (i := 5) rfl))
theorem ow_X7_nights_32 : Cond.fieldLink RX7 32 "WrongWord" "acts" "LWrongWord$Acts;" ∈ wsX7_nights := List.mem_cons_of_mem _ (List.mem_append_left _ (List.mem_of_getElem? (l := wsX7_nights_o) (i := 6) rfl))
theorem ow_X7_nights_130 : Cond.fieldLink RX7 130 "WrongWord$Gate" "words" "I" ∈ wsX7_nights := List.mem_cons_of_mem _ (List.mem_append_left _ (List.mem_of_getElem? (l := wsX7_nights_o) (i := 7) rfl))
theorem hS_X7_isWord : yX7_isWord.cls ≠ "java/lang/invoke/MethodHandle" ∧ yX7_isWord.cls ≠ "java/lang/invoke/VarHandle" ∧ (parseMethodDescriptor yX7_isWord.desc).map (fun d => d.parameters.length) = some 1 := ⟨nm_X7.1, nm_X7.2, pd_12⟩
theorem hV_X7_isWord : yX7_isWord.cls = RX7 ∧ yX7_isWord.cls ≠ "java/lang/invoke/MethodHandle" ∧ yX7_isWord.cls ≠ "java/lang/invoke/VarHandle" ∧ (parseMethodDescriptor yX7_isWord.desc).map (fun d => d.parameters.length) = some 1 := ⟨rfl, hS_X7_isWord⟩
theorem fi_X7_isWord_X7 : ∀ w ∈ wsX70, w ∈ wsX7_isWord := fun _ h => List.mem_cons_of_mem _ (List.mem_append_right _ (List.mem_append_left _ h))
theorem fi_X7_isWord_X2 : ∀ w ∈ wsX20, w ∈ wsX7_isWord := fun _ h => List.mem_cons_of_mem _ (List.mem_append_right _ (List.mem_append_right _ (List.mem_append_left _ h)))
theorem ow_X7_isWord_25 : Cond.fieldLink RX7 25 "WrongWord" "gate" "LWrongWord$Gate;" ∈ wsX7_isWord := List.mem_cons_of_mem _ (List.mem_append_left _ (List.mem_of_getElem? (l := wsX7_isWord_o) (i := 0) rfl))
theorem ow_X7_isWord_130 : Cond.fieldLink RX7 130 "WrongWord$Gate" "words" "I" ∈ wsX7_isWord := List.mem_cons_of_mem _ (List.mem_append_left _ (List.mem_of_getElem? (l := wsX7_isWord_o) (i := 1) rfl))
theorem hS_X7_isHour : yX7_isHour.cls ≠ "java/lang/invoke/MethodHandle" ∧ yX7_isHour.cls ≠ "java/lang/invoke/VarHandle" ∧ (parseMethodDescriptor yX7_isHour.desc).map (fun d => d.parameters.length) = some 1 := ⟨nm_X7.1, nm_X7.2, pd_12⟩
theorem hV_X7_isHour : yX7_isHour.cls = RX7 ∧ yX7_isHour.cls ≠ "java/lang/invoke/MethodHandle" ∧ yX7_isHour.cls ≠ "java/lang/invoke/VarHandle" ∧ (parseMethodDescriptor yX7_isHour.desc).map (fun d => d.parameters.length) = some 1 := ⟨rfl, hS_X7_isHour⟩
theorem hS_X7_say : yX7_say.cls ≠ "java/lang/invoke/MethodHandle" ∧ yX7_say.cls ≠ "java/lang/invoke/VarHandle" ∧ (parseMethodDescriptor yX7_say.desc).map (fun d => d.parameters.length) = some 2 := ⟨nm_X7.1, nm_X7.2, pd_10⟩
theorem hV_X7_say : yX7_say.cls = RX7 ∧ yX7_say.cls ≠ "java/lang/invoke/MethodHandle" ∧ yX7_say.cls ≠ "java/lang/invoke/VarHandle" ∧ (parseMethodDescriptor yX7_say.desc).map (fun d => d.parameters.length) = some 2 := ⟨rfl, hS_X7_say⟩
theorem fi_X7_say_X7 : ∀ w ∈ wsX70, w ∈ wsX7_say := fun _ h => List.mem_cons_of_mem _ (List.mem_append_right _ (List.mem_append_right _ (List.mem_append_right _ (List.mem_append_right _ (List.mem_append_right _ (List.mem_append_right _ (List.mem_append_right _ (List.mem_append_right _ (List.mem_append_right _ (List.mem_append_left _ h))))))))))
theorem fi_X7_say_X2 : ∀ w ∈ wsX20, w ∈ wsX7_say := fun _ h => List.mem_cons_of_mem _ (List.mem_append_right _ (List.mem_append_right _ (List.mem_append_right _ (List.mem_append_right _ (List.mem_append_right _ (List.mem_append_right _ (List.mem_append_right _ (List.mem_append_right _ (List.mem_append_right _ (List.mem_append_right _ (List.mem_append_left _ h)))))))))))
theorem fi_X7_say_X4 : ∀ w ∈ wsX40, w ∈ wsX7_say := fun _ h => List.mem_cons_of_mem _ (List.mem_append_right _ (List.mem_append_right _ (List.mem_append_right _ (List.mem_append_right _ (List.mem_append_right _ (List.mem_append_right _ (List.mem_append_right _ (List.mem_append_right _ (List.mem_append_right _ (List.mem_append_right _ (List.mem_append_right _ (List.mem_append_left _ h))))))))))))
theorem fi_X7_say_X0 : ∀ w ∈ wsX00, w ∈ wsX7_say := fun _ h => List.mem_cons_of_mem _ (List.mem_append_right _ (List.mem_append_right _ (List.mem_append_right _ (List.mem_append_right _ (List.mem_append_right _ (List.mem_append_right _ (List.mem_append_right _ (List.mem_append_right _ (List.mem_append_right _ (List.mem_append_right _ (List.mem_append_right _ (List.mem_append_right _ (List.mem_append_left _ h)))))))))))))
theorem ow_X7_say_59 : Cond.constant RX7 59 (-1000001) ∈ wsX7_say := List.mem_cons_of_mem _ (List.mem_append_left _ (List.mem_of_getElem? (l := wsX7_say_o) (i := 0) rfl))
theorem ow_X7_say_25 : Cond.fieldLink RX7 25 "WrongWord" "gate" "LWrongWord$Gate;" ∈ wsX7_say := List.mem_cons_of_mem _ (List.mem_append_left _ (List.mem_of_getElem? (l := wsX7_say_o) (i := 1) rfl))
theorem ow_X7_say_137 : Cond.fieldLink RX7 137 "WrongWord$Gate" "now" "LWrongWord$Moment;" ∈ wsX7_say := List.mem_cons_of_mem _ (List.mem_append_left _ (List.mem_of_getElem? (l := wsX7_say_o) (i := 2) rfl))
theorem ow_X7_say_162 : Cond.fieldLink RX7 162 "WrongWord$Moment" "tries" "I" ∈ wsX7_say := List.mem_cons_of_mem _ (List.mem_append_left _ (List.mem_of_getElem? (l := wsX7_say_o) (i := 3) rfl))
theorem ow_X7_say_105 : Cond.constant RX7 105 (-1000003) ∈ wsX7_say := List.mem_cons_of_mem _ (List.mem_append_left _ (List.mem_of_getElem? (l := wsX7_say_o) (i := 4) rfl))
theorem ow_X7_say_141 : Cond.fieldLink RX7 141 "WrongWord$Moment" "night" "I" ∈ wsX7_say := List.mem_cons_of_mem _ (List.mem_append_left _ (List.mem_of_getElem? (l := wsX7_say_o) (i := 5) rfl))
theorem ow_X7_say_32 : Cond.fieldLink RX7 32 "WrongWord" "acts" "LWrongWord$Acts;" ∈ wsX7_say := List.mem_cons_of_mem _ (List.mem_append_left _ (List.mem_of_getElem? (l := wsX7_say_o) (i := 6) rfl))
theorem ow_X7_say_175 : Cond.constant RX7 175 (-1000000) ∈ wsX7_say := List.mem_cons_of_mem _ (List.mem_append_left _ (List.mem_of_getElem? (l := wsX7_say_o) (i := 7) rfl))
theorem ow_X7_say_130 : Cond.fieldLink RX7 130 "WrongWord$Gate" "words" "I" ∈ wsX7_say := List.mem_cons_of_mem _ (List.mem_append_left _ (List.mem_of_getElem? (l := wsX7_say_o) (i := 8) rfl))
theorem hS_X7_start : yX7_start.cls ≠ "java/lang/invoke/MethodHandle" ∧ yX7_start.cls ≠ "java/lang/invoke/VarHandle" ∧ (parseMethodDescriptor yX7_start.desc).map (fun d => d.parameters.length) = some 1 := ⟨nm_X7.1, nm_X7.2, pd_8⟩
theorem hV_X7_start : yX7_start.cls = RX7 ∧ yX7_start.cls ≠ "java/lang/invoke/MethodHandle" ∧ yX7_start.cls ≠ "java/lang/invoke/VarHandle" ∧ (parseMethodDescriptor yX7_start.desc).map (fun d => d.parameters.length) = some 1 := ⟨rfl, hS_X7_start⟩
theorem fi_X7_start_X7 : ∀ w ∈ wsX70, w ∈ wsX7_start := fun _ h => List.mem_cons_of_mem _ (List.mem_append_right _ (List.mem_append_right _ (List.mem_append_right _ (List.mem_append_left _ h))))
theorem fi_X7_start_X2 : ∀ w ∈ wsX20, w ∈ wsX7_start := fun _ h => List.mem_cons_of_mem _ (List.mem_append_right _ (List.mem_append_right _ (List.mem_append_right _ (List.mem_append_right _ (List.mem_append_left _ h)))))
theorem fi_X7_start_X4 : ∀ w ∈ wsX40, w ∈ wsX7_start := fun _ h => List.mem_cons_of_mem _ (List.mem_append_right _ (List.mem_append_right _ (List.mem_append_right _ (List.mem_append_right _ (List.mem_append_right _ (List.mem_append_left _ h))))))
theorem fi_X7_start_X0 : ∀ w ∈ wsX00, w ∈ wsX7_start := fun _ h => List.mem_cons_of_mem _ (List.mem_append_right _ (List.mem_append_right _ (List.mem_append_right _ (List.mem_append_right _ (List.mem_append_right _ (List.mem_append_right _ (List.mem_append_left _ h)))))))
theorem ow_X7_start_136 : Cond.constant RX7 136 (-1000002) ∈ wsX7_start := List.mem_cons_of_mem _ (List.mem_append_left _ (List.mem_of_getElem? (l := wsX7_start_o) (i := 0) rfl))
theorem ow_X7_start_59 : Cond.constant RX7 59 (-1000001) ∈ wsX7_start := List.mem_cons_of_mem _ (List.mem_append_left _ (List.mem_of_getElem? (l := wsX7_start_o) (i := 1) rfl))
theorem ow_X7_start_25 : Cond.fieldLink RX7 25 "WrongWord" "gate" "LWrongWord$Gate;" ∈ wsX7_start := List.mem_cons_of_mem _ (List.mem_append_left _ (List.mem_of_getElem? (l := wsX7_start_o) (i := 2) rfl))
theorem ow_X7_start_137 : Cond.fieldLink RX7 137 "WrongWord$Gate" "now" "LWrongWord$Moment;" ∈ wsX7_start := List.mem_cons_of_mem _ (List.mem_append_left _ (List.mem_of_getElem? (l := wsX7_start_o) (i := 3) rfl))
theorem ow_X7_start_184 : Cond.fieldLink RX7 184 "WrongWord$Moment" "start" "I" ∈ wsX7_start := List.mem_cons_of_mem _ (List.mem_append_left _ (List.mem_of_getElem? (l := wsX7_start_o) (i := 4) rfl))
theorem ow_X7_start_32 : Cond.fieldLink RX7 32 "WrongWord" "acts" "LWrongWord$Acts;" ∈ wsX7_start := List.mem_cons_of_mem _ (List.mem_append_left _ (List.mem_of_getElem? (l := wsX7_start_o) (i := 5) rfl))
theorem ow_X7_start_130 : Cond.fieldLink RX7 130 "WrongWord$Gate" "words" "I" ∈ wsX7_start := List.mem_cons_of_mem _ (List.mem_append_left _ (List.mem_of_getElem? (l := wsX7_start_o) (i := 6) rfl))
theorem hS_X7_isGuard : yX7_isGuard.cls ≠ "java/lang/invoke/MethodHandle" ∧ yX7_isGuard.cls ≠ "java/lang/invoke/VarHandle" ∧ (parseMethodDescriptor yX7_isGuard.desc).map (fun d => d.parameters.length) = some 1 := ⟨nm_X7.1, nm_X7.2, pd_12⟩
theorem hV_X7_isGuard : yX7_isGuard.cls = RX7 ∧ yX7_isGuard.cls ≠ "java/lang/invoke/MethodHandle" ∧ yX7_isGuard.cls ≠ "java/lang/invoke/VarHandle" ∧ (parseMethodDescriptor yX7_isGuard.desc).map (fun d => d.parameters.length) = some 1 := ⟨rfl, hS_X7_isGuard⟩
theorem fi_X7_isGuard_X7 : ∀ w ∈ wsX70, w ∈ wsX7_isGuard := fun _ h => List.mem_cons_of_mem _ (List.mem_append_right _ (List.mem_append_left _ h))
theorem fi_X7_isGuard_X2 : ∀ w ∈ wsX20, w ∈ wsX7_isGuard := fun _ h => List.mem_cons_of_mem _ (List.mem_append_right _ (List.mem_append_right _ (List.mem_append_left _ h)))
theorem ow_X7_isGuard_25 : Cond.fieldLink RX7 25 "WrongWord" "gate" "LWrongWord$Gate;" ∈ wsX7_isGuard := List.mem_cons_of_mem _ (List.mem_append_left _ (List.mem_of_getElem? (l := wsX7_isGuard_o) (i := 0) rfl))
theorem ow_X7_isGuard_327 : Cond.fieldLink RX7 327 "WrongWord$Gate" "guards" "I" ∈ wsX7_isGuard := List.mem_cons_of_mem _ (List.mem_append_left _ (List.mem_of_getElem? (l := wsX7_isGuard_o) (i := 1) rfl))
theorem hS_X7_dismiss : yX7_dismiss.cls ≠ "java/lang/invoke/MethodHandle" ∧ yX7_dismiss.cls ≠ "java/lang/invoke/VarHandle" ∧ (parseMethodDescriptor yX7_dismiss.desc).map (fun d => d.parameters.length) = some 2 := ⟨nm_X7.1, nm_X7.2, pd_10⟩
theorem hV_X7_dismiss : yX7_dismiss.cls = RX7 ∧ yX7_dismiss.cls ≠ "java/lang/invoke/MethodHandle" ∧ yX7_dismiss.cls ≠ "java/lang/invoke/VarHandle" ∧ (parseMethodDescriptor yX7_dismiss.desc).map (fun d => d.parameters.length) = some 2 := ⟨rfl, hS_X7_dismiss⟩
theorem fi_X7_dismiss_X7 : ∀ w ∈ wsX70, w ∈ wsX7_dismiss := fun _ h => List.mem_cons_of_mem _ (List.mem_append_right _ (List.mem_append_right _ (List.mem_append_right _ (List.mem_append_right _ (List.mem_append_right _ (List.mem_append_left _ h))))))
theorem fi_X7_dismiss_X2 : ∀ w ∈ wsX20, w ∈ wsX7_dismiss := fun _ h => List.mem_cons_of_mem _ (List.mem_append_right _ (List.mem_append_right _ (List.mem_append_right _ (List.mem_append_right _ (List.mem_append_right _ (List.mem_append_right _ (List.mem_append_left _ h)))))))
theorem fi_X7_dismiss_X4 : ∀ w ∈ wsX40, w ∈ wsX7_dismiss := fun _ h => List.mem_cons_of_mem _ (List.mem_append_right _ (List.mem_append_right _ (List.mem_append_right _ (List.mem_append_right _ (List.mem_append_right _ (List.mem_append_right _ (List.mem_append_right _ (List.mem_append_left _ h))))))))
theorem fi_X7_dismiss_X0 : ∀ w ∈ wsX00, w ∈ wsX7_dismiss := fun _ h => List.mem_cons_of_mem _ (List.mem_append_right _ (List.mem_append_right _ (List.mem_append_right _ (List.mem_append_right _ (List.mem_append_right _ (List.mem_append_right _ (List.mem_append_right _ (List.mem_append_right _ (List.mem_append_left _ h)))))))))
theorem ow_X7_dismiss_59 : Cond.constant RX7 59 (-1000001) ∈ wsX7_dismiss := List.mem_cons_of_mem _ (List.mem_append_left _ (List.mem_of_getElem? (l := wsX7_dismiss_o) (i := 0) rfl))
theorem ow_X7_dismiss_25 : Cond.fieldLink RX7 25 "WrongWord" "gate" "LWrongWord$Gate;" ∈ wsX7_dismiss := List.mem_cons_of_mem _ (List.mem_append_left _ (List.mem_of_getElem? (l := wsX7_dismiss_o) (i := 1) rfl))
theorem ow_X7_dismiss_136 : Cond.constant RX7 136 (-1000002) ∈ wsX7_dismiss := List.mem_cons_of_mem _ (List.mem_append_left _ (List.mem_of_getElem? (l := wsX7_dismiss_o) (i := 2) rfl))
theorem ow_X7_dismiss_32 : Cond.fieldLink RX7 32 "WrongWord" "acts" "LWrongWord$Acts;" ∈ wsX7_dismiss := List.mem_cons_of_mem _ (List.mem_append_left _ (List.mem_of_getElem? (l := wsX7_dismiss_o) (i := 3) rfl))
theorem ow_X7_dismiss_137 : Cond.fieldLink RX7 137 "WrongWord$Gate" "now" "LWrongWord$Moment;" ∈ wsX7_dismiss := List.mem_cons_of_mem _ (List.mem_append_left _ (List.mem_of_getElem? (l := wsX7_dismiss_o) (i := 4) rfl))
theorem ow_X7_dismiss_190 : Cond.fieldLink RX7 190 "WrongWord$Moment" "there" "I" ∈ wsX7_dismiss := List.mem_cons_of_mem _ (List.mem_append_left _ (List.mem_of_getElem? (l := wsX7_dismiss_o) (i := 5) rfl))
theorem ow_X7_dismiss_327 : Cond.fieldLink RX7 327 "WrongWord$Gate" "guards" "I" ∈ wsX7_dismiss := List.mem_cons_of_mem _ (List.mem_append_left _ (List.mem_of_getElem? (l := wsX7_dismiss_o) (i := 6) rfl))
theorem hS_X7_undo : yX7_undo.cls ≠ "java/lang/invoke/MethodHandle" ∧ yX7_undo.cls ≠ "java/lang/invoke/VarHandle" ∧ (parseMethodDescriptor yX7_undo.desc).map (fun d => d.parameters.length) = some 0 := ⟨nm_X7.1, nm_X7.2, pd_5⟩
theorem hV_X7_undo : yX7_undo.cls = RX7 ∧ yX7_undo.cls ≠ "java/lang/invoke/MethodHandle" ∧ yX7_undo.cls ≠ "java/lang/invoke/VarHandle" ∧ (parseMethodDescriptor yX7_undo.desc).map (fun d => d.parameters.length) = some 0 := ⟨rfl, hS_X7_undo⟩
theorem fi_X7_undo_X7 : ∀ w ∈ wsX70, w ∈ wsX7_undo := fun _ h => List.mem_cons_of_mem _ (List.mem_append_right _ (List.mem_append_right _ (List.mem_append_left _ h)))
theorem fi_X7_undo_X2 : ∀ w ∈ wsX20, w ∈ wsX7_undo := fun _ h => List.mem_cons_of_mem _ (List.mem_append_right _ (List.mem_append_right _ (List.mem_append_right _ (List.mem_append_left _ h))))
theorem fi_X7_undo_X0 : ∀ w ∈ wsX00, w ∈ wsX7_undo := fun _ h => List.mem_cons_of_mem _ (List.mem_append_right _ (List.mem_append_right _ (List.mem_append_right _ (List.mem_append_right _ (List.mem_append_left _ h)))))
theorem fi_X7_undo_X4 : ∀ w ∈ wsX40, w ∈ wsX7_undo := fun _ h => List.mem_cons_of_mem _ (List.mem_append_right _ (List.mem_append_right _ (List.mem_append_right _ (List.mem_append_right _ (List.mem_append_right _ (List.mem_append_left _ h))))))
theorem ow_X7_undo_32 : Cond.fieldLink RX7 32 "WrongWord" "acts" "LWrongWord$Acts;" ∈ wsX7_undo := List.mem_cons_of_mem _ (List.mem_append_left _ (List.mem_of_getElem? (l := wsX7_undo_o) (i := 0) rfl))
theorem ow_X7_undo_25 : Cond.fieldLink RX7 25 "WrongWord" "gate" "LWrongWord$Gate;" ∈ wsX7_undo := List.mem_cons_of_mem _ (List.mem_append_left _ (List.mem_of_getElem? (l := wsX7_undo_o) (i := 1) rfl))
theorem ow_X7_undo_137 : Cond.fieldLink RX7 137 "WrongWord$Gate" "now" "LWrongWord$Moment;" ∈ wsX7_undo := List.mem_cons_of_mem _ (List.mem_append_left _ (List.mem_of_getElem? (l := wsX7_undo_o) (i := 2) rfl))
theorem ow_X7_undo_197 : Cond.fieldLink RX7 197 "WrongWord$Acts" "kept" "I" ∈ wsX7_undo := List.mem_cons_of_mem _ (List.mem_append_left _ (List.mem_of_getElem? (l := wsX7_undo_o) (i := 3) rfl))
theorem ow_X7_undo_136 : Cond.constant RX7 136 (-1000002) ∈ wsX7_undo := List.mem_cons_of_mem _ (List.mem_append_left _ (List.mem_of_getElem? (l := wsX7_undo_o) (i := 4) rfl))
theorem hS_X7_letter : yX7_letter.cls ≠ "java/lang/invoke/MethodHandle" ∧ yX7_letter.cls ≠ "java/lang/invoke/VarHandle" ∧ (parseMethodDescriptor yX7_letter.desc).map (fun d => d.parameters.length) = some 2 := ⟨nm_X7.1, nm_X7.2, pd_10⟩
theorem hV_X7_letter : yX7_letter.cls = RX7 ∧ yX7_letter.cls ≠ "java/lang/invoke/MethodHandle" ∧ yX7_letter.cls ≠ "java/lang/invoke/VarHandle" ∧ (parseMethodDescriptor yX7_letter.desc).map (fun d => d.parameters.length) = some 2 := ⟨rfl, hS_X7_letter⟩
theorem fi_X7_letter_X7 : ∀ w ∈ wsX70, w ∈ wsX7_letter := fun _ h => List.mem_cons_of_mem _ (List.mem_append_right _ (List.mem_append_right _ (List.mem_append_left _ h)))
theorem fi_X7_letter_X2 : ∀ w ∈ wsX20, w ∈ wsX7_letter := fun _ h => List.mem_cons_of_mem _ (List.mem_append_right _ (List.mem_append_right _ (List.mem_append_right _ (List.mem_append_left _ h))))
theorem ow_X7_letter_59 : Cond.constant RX7 59 (-1000001) ∈ wsX7_letter := List.mem_cons_of_mem _ (List.mem_append_left _ (List.mem_of_getElem? (l := wsX7_letter_o) (i := 0) rfl))
theorem ow_X7_letter_25 : Cond.fieldLink RX7 25 "WrongWord" "gate" "LWrongWord$Gate;" ∈ wsX7_letter := List.mem_cons_of_mem _ (List.mem_append_left _ (List.mem_of_getElem? (l := wsX7_letter_o) (i := 1) rfl))
theorem ow_X7_letter_200 : Cond.fieldLink RX7 200 "WrongWord$Gate" "letters" "[I" ∈ wsX7_letter := List.mem_cons_of_mem _ (List.mem_append_left _ (List.mem_of_getElem? (l := wsX7_letter_o) (i := 2) rfl))
theorem ow_X7_letter_130 : Cond.fieldLink RX7 130 "WrongWord$Gate" "words" "I" ∈ wsX7_letter := List.mem_cons_of_mem _ (List.mem_append_left _ (List.mem_of_getElem? (l := wsX7_letter_o) (i := 3) rfl))
theorem hS_X7_like : yX7_like.cls ≠ "java/lang/invoke/MethodHandle" ∧ yX7_like.cls ≠ "java/lang/invoke/VarHandle" ∧ (parseMethodDescriptor yX7_like.desc).map (fun d => d.parameters.length) = some 3 := ⟨nm_X7.1, nm_X7.2, pd_23⟩
theorem hV_X7_like : yX7_like.cls = RX7 ∧ yX7_like.cls ≠ "java/lang/invoke/MethodHandle" ∧ yX7_like.cls ≠ "java/lang/invoke/VarHandle" ∧ (parseMethodDescriptor yX7_like.desc).map (fun d => d.parameters.length) = some 3 := ⟨rfl, hS_X7_like⟩
theorem fi_X7_like_X7 : ∀ w ∈ wsX70, w ∈ wsX7_like := fun _ h => List.mem_cons_of_mem _ (List.mem_append_right _ (List.mem_append_right _ (List.mem_append_right _ (List.mem_append_right _ (List.mem_append_left _ h)))))
theorem fi_X7_like_X2 : ∀ w ∈ wsX20, w ∈ wsX7_like := fun _ h => List.mem_cons_of_mem _ (List.mem_append_right _ (List.mem_append_right _ (List.mem_append_right _ (List.mem_append_right _ (List.mem_append_right _ (List.mem_append_left _ h))))))
theorem ow_X7_like_59 : Cond.constant RX7 59 (-1000001) ∈ wsX7_like := List.mem_cons_of_mem _ (List.mem_append_left _ (List.mem_of_getElem? (l := wsX7_like_o) (i := 0) rfl))
theorem ow_X7_like_25 : Cond.fieldLink RX7 25 "WrongWord" "gate" "LWrongWord$Gate;" ∈ wsX7_like := List.mem_cons_of_mem _ (List.mem_append_left _ (List.mem_of_getElem? (l := wsX7_like_o) (i := 1) rfl))
theorem ow_X7_like_130 : Cond.fieldLink RX7 130 "WrongWord$Gate" "words" "I" ∈ wsX7_like := List.mem_cons_of_mem _ (List.mem_append_left _ (List.mem_of_getElem? (l := wsX7_like_o) (i := 2) rfl))
theorem hS_X7_guard : yX7_guard.cls ≠ "java/lang/invoke/MethodHandle" ∧ yX7_guard.cls ≠ "java/lang/invoke/VarHandle" ∧ (parseMethodDescriptor yX7_guard.desc).map (fun d => d.parameters.length) = some 2 := ⟨nm_X7.1, nm_X7.2, pd_10⟩
theorem hV_X7_guard : yX7_guard.cls = RX7 ∧ yX7_guard.cls ≠ "java/lang/invoke/MethodHandle" ∧ yX7_guard.cls ≠ "java/lang/invoke/VarHandle" ∧ (parseMethodDescriptor yX7_guard.desc).map (fun d => d.parameters.length) = some 2 := ⟨rfl, hS_X7_guard⟩
theorem fi_X7_guard_X7 : ∀ w ∈ wsX70, w ∈ wsX7_guard := fun _ h => List.mem_cons_of_mem _ (List.mem_append_right _ (List.mem_append_right _ (List.mem_append_right _ (List.mem_append_right _ (List.mem_append_right _ (List.mem_append_left _ h))))))
theorem fi_X7_guard_X2 : ∀ w ∈ wsX20, w ∈ wsX7_guard := fun _ h => List.mem_cons_of_mem _ (List.mem_append_right _ (List.mem_append_right _ (List.mem_append_right _ (List.mem_append_right _ (List.mem_append_right _ (List.mem_append_right _ (List.mem_append_left _ h)))))))
theorem fi_X7_guard_X4 : ∀ w ∈ wsX40, w ∈ wsX7_guard := fun _ h => List.mem_cons_of_mem _ (List.mem_append_right _ (List.mem_append_right _ (List.mem_append_right _ (List.mem_append_right _ (List.mem_append_right _ (List.mem_append_right _ (List.mem_append_right _ (List.mem_append_left _ h))))))))
theorem ow_X7_guard_59 : Cond.constant RX7 59 (-1000001) ∈ wsX7_guard := List.mem_cons_of_mem _ (List.mem_append_left _ (List.mem_of_getElem? (l := wsX7_guard_o) (i := 0) rfl))
theorem ow_X7_guard_25 : Cond.fieldLink RX7 25 "WrongWord" "gate" "LWrongWord$Gate;" ∈ wsX7_guard := List.mem_cons_of_mem _ (List.mem_append_left _ (List.mem_of_getElem? (l := wsX7_guard_o) (i := 1) rfl))
theorem ow_X7_guard_209 : Cond.fieldLink RX7 209 "WrongWord$Gate" "fees" "[I" ∈ wsX7_guard := List.mem_cons_of_mem _ (List.mem_append_left _ (List.mem_of_getElem? (l := wsX7_guard_o) (i := 2) rfl))
theorem ow_X7_guard_137 : Cond.fieldLink RX7 137 "WrongWord$Gate" "now" "LWrongWord$Moment;" ∈ wsX7_guard := List.mem_cons_of_mem _ (List.mem_append_left _ (List.mem_of_getElem? (l := wsX7_guard_o) (i := 3) rfl))
theorem ow_X7_guard_212 : Cond.fieldLink RX7 212 "WrongWord$Moment" "took" "[I" ∈ wsX7_guard := List.mem_cons_of_mem _ (List.mem_append_left _ (List.mem_of_getElem? (l := wsX7_guard_o) (i := 4) rfl))
theorem ow_X7_guard_327 : Cond.fieldLink RX7 327 "WrongWord$Gate" "guards" "I" ∈ wsX7_guard := List.mem_cons_of_mem _ (List.mem_append_left _ (List.mem_of_getElem? (l := wsX7_guard_o) (i := 5) rfl))
theorem hS_X7_tried : yX7_tried.cls ≠ "java/lang/invoke/MethodHandle" ∧ yX7_tried.cls ≠ "java/lang/invoke/VarHandle" ∧ (parseMethodDescriptor yX7_tried.desc).map (fun d => d.parameters.length) = some 2 := ⟨nm_X7.1, nm_X7.2, pd_10⟩
theorem hV_X7_tried : yX7_tried.cls = RX7 ∧ yX7_tried.cls ≠ "java/lang/invoke/MethodHandle" ∧ yX7_tried.cls ≠ "java/lang/invoke/VarHandle" ∧ (parseMethodDescriptor yX7_tried.desc).map (fun d => d.parameters.length) = some 2 := ⟨rfl, hS_X7_tried⟩
theorem fi_X7_tried_X7 : ∀ w ∈ wsX70, w ∈ wsX7_tried := fun _ h => List.mem_cons_of_mem _ (List.mem_append_right _ (List.mem_append_left _ h))
theorem fi_X7_tried_X2 : ∀ w ∈ wsX20, w ∈ wsX7_tried := fun _ h => List.mem_cons_of_mem _ (List.mem_append_right _ (List.mem_append_right _ (List.mem_append_left _ h)))
theorem fi_X7_tried_X4 : ∀ w ∈ wsX40, w ∈ wsX7_tried := fun _ h => List.mem_cons_of_mem _ (List.mem_append_right _ (List.mem_append_right _ (List.mem_append_right _ (List.mem_append_left _ h))))
theorem ow_X7_tried_25 : Cond.fieldLink RX7 25 "WrongWord" "gate" "LWrongWord$Gate;" ∈ wsX7_tried := List.mem_cons_of_mem _ (List.mem_append_left _ (List.mem_of_getElem? (l := wsX7_tried_o) (i := 0) rfl))
theorem ow_X7_tried_137 : Cond.fieldLink RX7 137 "WrongWord$Gate" "now" "LWrongWord$Moment;" ∈ wsX7_tried := List.mem_cons_of_mem _ (List.mem_append_left _ (List.mem_of_getElem? (l := wsX7_tried_o) (i := 1) rfl))
theorem ow_X7_tried_162 : Cond.fieldLink RX7 162 "WrongWord$Moment" "tries" "I" ∈ wsX7_tried := List.mem_cons_of_mem _ (List.mem_append_left _ (List.mem_of_getElem? (l := wsX7_tried_o) (i := 2) rfl))
theorem ow_X7_tried_59 : Cond.constant RX7 59 (-1000001) ∈ wsX7_tried := List.mem_cons_of_mem _ (List.mem_append_left _ (List.mem_of_getElem? (l := wsX7_tried_o) (i := 3) rfl))
theorem ow_X7_tried_218 : Cond.fieldLink RX7 218 "WrongWord$Moment" "triedWord" "[I" ∈ wsX7_tried := List.mem_cons_of_mem _ (List.mem_append_left _ (List.mem_of_getElem? (l := wsX7_tried_o) (i := 4) rfl))
theorem ow_X7_tried_221 : Cond.fieldLink RX7 221 "WrongWord$Moment" "triedGuard" "[I" ∈ wsX7_tried := List.mem_cons_of_mem _ (List.mem_append_left _ (List.mem_of_getElem? (l := wsX7_tried_o) (i := 5) rfl))
theorem ow_X7_tried_224 : Cond.fieldLink RX7 224 "WrongWord$Moment" "triedTaken" "[I" ∈ wsX7_tried := List.mem_cons_of_mem _ (List.mem_append_left _ (List.mem_of_getElem? (l := wsX7_tried_o) (i := 6) rfl))
theorem hS_X7_isAhead : yX7_isAhead.cls ≠ "java/lang/invoke/MethodHandle" ∧ yX7_isAhead.cls ≠ "java/lang/invoke/VarHandle" ∧ (parseMethodDescriptor yX7_isAhead.desc).map (fun d => d.parameters.length) = some 1 := ⟨nm_X7.1, nm_X7.2, pd_12⟩
theorem hV_X7_isAhead : yX7_isAhead.cls = RX7 ∧ yX7_isAhead.cls ≠ "java/lang/invoke/MethodHandle" ∧ yX7_isAhead.cls ≠ "java/lang/invoke/VarHandle" ∧ (parseMethodDescriptor yX7_isAhead.desc).map (fun d => d.parameters.length) = some 1 := ⟨rfl, hS_X7_isAhead⟩
theorem hS_X7_secret : yX7_secret.cls ≠ "java/lang/invoke/MethodHandle" ∧ yX7_secret.cls ≠ "java/lang/invoke/VarHandle" ∧ (parseMethodDescriptor yX7_secret.desc).map (fun d => d.parameters.length) = some 1 := ⟨nm_X7.1, nm_X7.2, pd_8⟩
theorem hV_X7_secret : yX7_secret.cls = RX7 ∧ yX7_secret.cls ≠ "java/lang/invoke/MethodHandle" ∧ yX7_secret.cls ≠ "java/lang/invoke/VarHandle" ∧ (parseMethodDescriptor yX7_secret.desc).map (fun d => d.parameters.length) = some 1 := ⟨rfl, hS_X7_secret⟩
theorem fi_X7_secret_X7 : ∀ w ∈ wsX70, w ∈ wsX7_secret := fun _ h => List.mem_cons_of_mem _ (List.mem_append_right _ (List.mem_append_right _ (List.mem_append_right _ (List.mem_append_right _ (List.mem_append_left _ h)))))
theorem fi_X7_secret_X2 : ∀ w ∈ wsX20, w ∈ wsX7_secret := fun _ h => List.mem_cons_of_mem _ (List.mem_append_right _ (List.mem_append_right _ (List.mem_append_right _ (List.mem_append_right _ (List.mem_append_right _ (List.mem_append_left _ h))))))
theorem fi_X7_secret_X4 : ∀ w ∈ wsX40, w ∈ wsX7_secret := fun _ h => List.mem_cons_of_mem _ (List.mem_append_right _ (List.mem_append_right _ (List.mem_append_right _ (List.mem_append_right _ (List.mem_append_right _ (List.mem_append_right _ (List.mem_append_left _ h)))))))
theorem ow_X7_secret_136 : Cond.constant RX7 136 (-1000002) ∈ wsX7_secret := List.mem_cons_of_mem _ (List.mem_append_left _ (List.mem_of_getElem? (l := wsX7_secret_o) (i := 0) rfl))
theorem ow_X7_secret_25 : Cond.fieldLink RX7 25 "WrongWord" "gate" "LWrongWord$Gate;" ∈ wsX7_secret := List.mem_cons_of_mem _ (List.mem_append_left _ (List.mem_of_getElem? (l := wsX7_secret_o) (i := 1) rfl))
theorem ow_X7_secret_59 : Cond.constant RX7 59 (-1000001) ∈ wsX7_secret := List.mem_cons_of_mem _ (List.mem_append_left _ (List.mem_of_getElem? (l := wsX7_secret_o) (i := 2) rfl))
theorem ow_X7_secret_130 : Cond.fieldLink RX7 130 "WrongWord$Gate" "words" "I" ∈ wsX7_secret := List.mem_cons_of_mem _ (List.mem_append_left _ (List.mem_of_getElem? (l := wsX7_secret_o) (i := 3) rfl))
theorem hS_X7_taken : yX7_taken.cls ≠ "java/lang/invoke/MethodHandle" ∧ yX7_taken.cls ≠ "java/lang/invoke/VarHandle" ∧ (parseMethodDescriptor yX7_taken.desc).map (fun d => d.parameters.length) = some 3 := ⟨nm_X7.1, nm_X7.2, pd_23⟩
theorem hV_X7_taken : yX7_taken.cls = RX7 ∧ yX7_taken.cls ≠ "java/lang/invoke/MethodHandle" ∧ yX7_taken.cls ≠ "java/lang/invoke/VarHandle" ∧ (parseMethodDescriptor yX7_taken.desc).map (fun d => d.parameters.length) = some 3 := ⟨rfl, hS_X7_taken⟩
theorem fi_X7_taken_X7 : ∀ w ∈ wsX70, w ∈ wsX7_taken := fun _ h => List.mem_cons_of_mem _ (List.mem_append_right _ (List.mem_append_right _ (List.mem_append_right _ (List.mem_append_right _ (List.mem_append_right _ (List.mem_append_right _ (List.mem_append_left _ h)))))))
theorem fi_X7_taken_X2 : ∀ w ∈ wsX20, w ∈ wsX7_taken := fun _ h => List.mem_cons_of_mem _ (List.mem_append_right _ (List.mem_append_right _ (List.mem_append_right _ (List.mem_append_right _ (List.mem_append_right _ (List.mem_append_right _ (List.mem_append_right _ (List.mem_append_left _ h))))))))
theorem fi_X7_taken_X4 : ∀ w ∈ wsX40, w ∈ wsX7_taken := fun _ h => List.mem_cons_of_mem _ (List.mem_append_right _ (List.mem_append_right _ (List.mem_append_right _ (List.mem_append_right _ (List.mem_append_right _ (List.mem_append_right _ (List.mem_append_right _ (List.mem_append_right _ (List.mem_append_left _ h)))))))))
theorem ow_X7_taken_59 : Cond.constant RX7 59 (-1000001) ∈ wsX7_taken := List.mem_cons_of_mem _ (List.mem_append_left _ (List.mem_of_getElem? (l := wsX7_taken_o) (i := 0) rfl))
theorem ow_X7_taken_25 : Cond.fieldLink RX7 25 "WrongWord" "gate" "LWrongWord$Gate;" ∈ wsX7_taken := List.mem_cons_of_mem _ (List.mem_append_left _ (List.mem_of_getElem? (l := wsX7_taken_o) (i := 1) rfl))
theorem ow_X7_taken_130 : Cond.fieldLink RX7 130 "WrongWord$Gate" "words" "I" ∈ wsX7_taken := List.mem_cons_of_mem _ (List.mem_append_left _ (List.mem_of_getElem? (l := wsX7_taken_o) (i := 2) rfl))
theorem hS_X7_safe : yX7_safe.cls ≠ "java/lang/invoke/MethodHandle" ∧ yX7_safe.cls ≠ "java/lang/invoke/VarHandle" ∧ (parseMethodDescriptor yX7_safe.desc).map (fun d => d.parameters.length) = some 2 := ⟨nm_X7.1, nm_X7.2, pd_10⟩
theorem hV_X7_safe : yX7_safe.cls = RX7 ∧ yX7_safe.cls ≠ "java/lang/invoke/MethodHandle" ∧ yX7_safe.cls ≠ "java/lang/invoke/VarHandle" ∧ (parseMethodDescriptor yX7_safe.desc).map (fun d => d.parameters.length) = some 2 := ⟨rfl, hS_X7_safe⟩
theorem fi_X7_safe_X7 : ∀ w ∈ wsX70, w ∈ wsX7_safe := fun _ h => List.mem_cons_of_mem _ (List.mem_append_right _ (List.mem_append_right _ (List.mem_append_right _ (List.mem_append_right _ (List.mem_append_right _ (List.mem_append_left _ h))))))
theorem fi_X7_safe_X2 : ∀ w ∈ wsX20, w ∈ wsX7_safe := fun _ h => List.mem_cons_of_mem _ (List.mem_append_right _ (List.mem_append_right _ (List.mem_append_right _ (List.mem_append_right _ (List.mem_append_right _ (List.mem_append_right _ (List.mem_append_left _ h)))))))
theorem fi_X7_safe_X4 : ∀ w ∈ wsX40, w ∈ wsX7_safe := fun _ h => List.mem_cons_of_mem _ (List.mem_append_right _ (List.mem_append_right _ (List.mem_append_right _ (List.mem_append_right _ (List.mem_append_right _ (List.mem_append_right _ (List.mem_append_right _ (List.mem_append_left _ h))))))))
theorem ow_X7_safe_136 : Cond.constant RX7 136 (-1000002) ∈ wsX7_safe := List.mem_cons_of_mem _ (List.mem_append_left _ (List.mem_of_getElem? (l := wsX7_safe_o) (i := 0) rfl))
theorem ow_X7_safe_25 : Cond.fieldLink RX7 25 "WrongWord" "gate" "LWrongWord$Gate;" ∈ wsX7_safe := List.mem_cons_of_mem _ (List.mem_append_left _ (List.mem_of_getElem? (l := wsX7_safe_o) (i := 1) rfl))
theorem ow_X7_safe_59 : Cond.constant RX7 59 (-1000001) ∈ wsX7_safe := List.mem_cons_of_mem _ (List.mem_append_left _ (List.mem_of_getElem? (l := wsX7_safe_o) (i := 2) rfl))
theorem ow_X7_safe_130 : Cond.fieldLink RX7 130 "WrongWord$Gate" "words" "I" ∈ wsX7_safe := List.mem_cons_of_mem _ (List.mem_append_left _ (List.mem_of_getElem? (l := wsX7_safe_o) (i := 3) rfl))
theorem hS_X7_areWords : yX7_areWords.cls ≠ "java/lang/invoke/MethodHandle" ∧ yX7_areWords.cls ≠ "java/lang/invoke/VarHandle" ∧ (parseMethodDescriptor yX7_areWords.desc).map (fun d => d.parameters.length) = some 1 := ⟨nm_X7.1, nm_X7.2, pd_12⟩
theorem hV_X7_areWords : yX7_areWords.cls = RX7 ∧ yX7_areWords.cls ≠ "java/lang/invoke/MethodHandle" ∧ yX7_areWords.cls ≠ "java/lang/invoke/VarHandle" ∧ (parseMethodDescriptor yX7_areWords.desc).map (fun d => d.parameters.length) = some 1 := ⟨rfl, hS_X7_areWords⟩
theorem fi_X7_areWords_X7 : ∀ w ∈ wsX70, w ∈ wsX7_areWords := fun _ h => List.mem_cons_of_mem _ (List.mem_append_right _ (List.mem_append_left _ h))
theorem fi_X7_areWords_X2 : ∀ w ∈ wsX20, w ∈ wsX7_areWords := fun _ h => List.mem_cons_of_mem _ (List.mem_append_right _ (List.mem_append_right _ (List.mem_append_left _ h)))
theorem ow_X7_areWords_25 : Cond.fieldLink RX7 25 "WrongWord" "gate" "LWrongWord$Gate;" ∈ wsX7_areWords := List.mem_cons_of_mem _ (List.mem_append_left _ (List.mem_of_getElem? (l := wsX7_areWords_o) (i := 0) rfl))
theorem ow_X7_areWords_130 : Cond.fieldLink RX7 130 "WrongWord$Gate" "words" "I" ∈ wsX7_areWords := List.mem_cons_of_mem _ (List.mem_append_left _ (List.mem_of_getElem? (l := wsX7_areWords_o) (i := 1) rfl))
theorem hS_X7_open : yX7_open.cls ≠ "java/lang/invoke/MethodHandle" ∧ yX7_open.cls ≠ "java/lang/invoke/VarHandle" ∧ (parseMethodDescriptor yX7_open.desc).map (fun d => d.parameters.length) = some 2 := ⟨nm_X7.1, nm_X7.2, pd_10⟩
theorem hV_X7_open : yX7_open.cls = RX7 ∧ yX7_open.cls ≠ "java/lang/invoke/MethodHandle" ∧ yX7_open.cls ≠ "java/lang/invoke/VarHandle" ∧ (parseMethodDescriptor yX7_open.desc).map (fun d => d.parameters.length) = some 2 := ⟨rfl, hS_X7_open⟩
theorem fi_X7_open_X7 : ∀ w ∈ wsX70, w ∈ wsX7_open := fun _ h => List.mem_cons_of_mem _ (List.mem_append_right _ (List.mem_append_right _ (List.mem_append_right _ (List.mem_append_right _ (List.mem_append_right _ (List.mem_append_left _ h))))))
theorem fi_X7_open_X2 : ∀ w ∈ wsX20, w ∈ wsX7_open := fun _ h => List.mem_cons_of_mem _ (List.mem_append_right _ (List.mem_append_right _ (List.mem_append_right _ (List.mem_append_right _ (List.mem_append_right _ (List.mem_append_right _ (List.mem_append_left _ h)))))))
theorem fi_X7_open_X4 : ∀ w ∈ wsX40, w ∈ wsX7_open := fun _ h => List.mem_cons_of_mem _ (List.mem_append_right _ (List.mem_append_right _ (List.mem_append_right _ (List.mem_append_right _ (List.mem_append_right _ (List.mem_append_right _ (List.mem_append_right _ (List.mem_append_left _ h))))))))
theorem ow_X7_open_136 : Cond.constant RX7 136 (-1000002) ∈ wsX7_open := List.mem_cons_of_mem _ (List.mem_append_left _ (List.mem_of_getElem? (l := wsX7_open_o) (i := 0) rfl))
theorem ow_X7_open_25 : Cond.fieldLink RX7 25 "WrongWord" "gate" "LWrongWord$Gate;" ∈ wsX7_open := List.mem_cons_of_mem _ (List.mem_append_left _ (List.mem_of_getElem? (l := wsX7_open_o) (i := 1) rfl))
theorem ow_X7_open_59 : Cond.constant RX7 59 (-1000001) ∈ wsX7_open := List.mem_cons_of_mem _ (List.mem_append_left _ (List.mem_of_getElem? (l := wsX7_open_o) (i := 2) rfl))
theorem ow_X7_open_130 : Cond.fieldLink RX7 130 "WrongWord$Gate" "words" "I" ∈ wsX7_open := List.mem_cons_of_mem _ (List.mem_append_left _ (List.mem_of_getElem? (l := wsX7_open_o) (i := 3) rfl))
theorem hS_X7_next : yX7_next.cls ≠ "java/lang/invoke/MethodHandle" ∧ yX7_next.cls ≠ "java/lang/invoke/VarHandle" ∧ (parseMethodDescriptor yX7_next.desc).map (fun d => d.parameters.length) = some 1 := ⟨nm_X7.1, nm_X7.2, pd_8⟩
theorem hV_X7_next : yX7_next.cls = RX7 ∧ yX7_next.cls ≠ "java/lang/invoke/MethodHandle" ∧ yX7_next.cls ≠ "java/lang/invoke/VarHandle" ∧ (parseMethodDescriptor yX7_next.desc).map (fun d => d.parameters.length) = some 1 := ⟨rfl, hS_X7_next⟩
theorem fi_X7_next_X7 : ∀ w ∈ wsX70, w ∈ wsX7_next := fun _ h => List.mem_cons_of_mem _ (List.mem_append_right _ (List.mem_append_right _ (List.mem_append_right _ (List.mem_append_left _ h))))
theorem fi_X7_next_X2 : ∀ w ∈ wsX20, w ∈ wsX7_next := fun _ h => List.mem_cons_of_mem _ (List.mem_append_right _ (List.mem_append_right _ (List.mem_append_right _ (List.mem_append_right _ (List.mem_append_left _ h)))))
theorem fi_X7_next_X4 : ∀ w ∈ wsX40, w ∈ wsX7_next := fun _ h => List.mem_cons_of_mem _ (List.mem_append_right _ (List.mem_append_right _ (List.mem_append_right _ (List.mem_append_right _ (List.mem_append_right _ (List.mem_append_left _ h))))))
theorem ow_X7_next_25 : Cond.fieldLink RX7 25 "WrongWord" "gate" "LWrongWord$Gate;" ∈ wsX7_next := List.mem_cons_of_mem _ (List.mem_append_left _ (List.mem_of_getElem? (l := wsX7_next_o) (i := 0) rfl))
theorem ow_X7_next_59 : Cond.constant RX7 59 (-1000001) ∈ wsX7_next := List.mem_cons_of_mem _ (List.mem_append_left _ (List.mem_of_getElem? (l := wsX7_next_o) (i := 1) rfl))
theorem ow_X7_next_130 : Cond.fieldLink RX7 130 "WrongWord$Gate" "words" "I" ∈ wsX7_next := List.mem_cons_of_mem _ (List.mem_append_left _ (List.mem_of_getElem? (l := wsX7_next_o) (i := 2) rfl))
theorem hS_X7_agree : yX7_agree.cls ≠ "java/lang/invoke/MethodHandle" ∧ yX7_agree.cls ≠ "java/lang/invoke/VarHandle" ∧ (parseMethodDescriptor yX7_agree.desc).map (fun d => d.parameters.length) = some 0 := ⟨nm_X7.1, nm_X7.2, pd_5⟩
theorem hV_X7_agree : yX7_agree.cls = RX7 ∧ yX7_agree.cls ≠ "java/lang/invoke/MethodHandle" ∧ yX7_agree.cls ≠ "java/lang/invoke/VarHandle" ∧ (parseMethodDescriptor yX7_agree.desc).map (fun d => d.parameters.length) = some 0 := ⟨rfl, hS_X7_agree⟩
theorem fi_X7_agree_X7 : ∀ w ∈ wsX70, w ∈ wsX7_agree := fun _ h => List.mem_cons_of_mem _ (List.mem_append_right _ (List.mem_append_right _ (List.mem_append_right _ (List.mem_append_left _ h))))
theorem fi_X7_agree_X2 : ∀ w ∈ wsX20, w ∈ wsX7_agree := fun _ h => List.mem_cons_of_mem _ (List.mem_append_right _ (List.mem_append_right _ (List.mem_append_right _ (List.mem_append_right _ (List.mem_append_left _ h)))))
theorem fi_X7_agree_X4 : ∀ w ∈ wsX40, w ∈ wsX7_agree := fun _ h => List.mem_cons_of_mem _ (List.mem_append_right _ (List.mem_append_right _ (List.mem_append_right _ (List.mem_append_right _ (List.mem_append_right _ (List.mem_append_left _ h))))))
theorem ow_X7_agree_136 : Cond.constant RX7 136 (-1000002) ∈ wsX7_agree := List.mem_cons_of_mem _ (List.mem_append_left _ (List.mem_of_getElem? (l := wsX7_agree_o) (i := 0) rfl))
theorem ow_X7_agree_25 : Cond.fieldLink RX7 25 "WrongWord" "gate" "LWrongWord$Gate;" ∈ wsX7_agree := List.mem_cons_of_mem _ (List.mem_append_left _ (List.mem_of_getElem? (l := wsX7_agree_o) (i := 1) rfl))
theorem ow_X7_agree_130 : Cond.fieldLink RX7 130 "WrongWord$Gate" "words" "I" ∈ wsX7_agree := List.mem_cons_of_mem _ (List.mem_append_left _ (List.mem_of_getElem? (l := wsX7_agree_o) (i := 2) rfl))
theorem hS_X7_man : yX7_man.cls ≠ "java/lang/invoke/MethodHandle" ∧ yX7_man.cls ≠ "java/lang/invoke/VarHandle" ∧ (parseMethodDescriptor yX7_man.desc).map (fun d => d.parameters.length) = some 1 := ⟨nm_X7.1, nm_X7.2, pd_8⟩
theorem hV_X7_man : yX7_man.cls = RX7 ∧ yX7_man.cls ≠ "java/lang/invoke/MethodHandle" ∧ yX7_man.cls ≠ "java/lang/invoke/VarHandle" ∧ (parseMethodDescriptor yX7_man.desc).map (fun d => d.parameters.length) = some 1 := ⟨rfl, hS_X7_man⟩
theorem fi_X7_man_X7 : ∀ w ∈ wsX70, w ∈ wsX7_man := fun _ h => List.mem_cons_of_mem _ (List.mem_append_right _ (List.mem_append_right _ (List.mem_append_right _ (List.mem_append_right _ (List.mem_append_right _ (List.mem_append_left _ h))))))
theorem fi_X7_man_X2 : ∀ w ∈ wsX20, w ∈ wsX7_man := fun _ h => List.mem_cons_of_mem _ (List.mem_append_right _ (List.mem_append_right _ (List.mem_append_right _ (List.mem_append_right _ (List.mem_append_right _ (List.mem_append_right _ (List.mem_append_left _ h)))))))
theorem fi_X7_man_X4 : ∀ w ∈ wsX40, w ∈ wsX7_man := fun _ h => List.mem_cons_of_mem _ (List.mem_append_right _ (List.mem_append_right _ (List.mem_append_right _ (List.mem_append_right _ (List.mem_append_right _ (List.mem_append_right _ (List.mem_append_right _ (List.mem_append_left _ h))))))))
theorem ow_X7_man_136 : Cond.constant RX7 136 (-1000002) ∈ wsX7_man := List.mem_cons_of_mem _ (List.mem_append_left _ (List.mem_of_getElem? (l := wsX7_man_o) (i := 0) rfl))
theorem ow_X7_man_59 : Cond.constant RX7 59 (-1000001) ∈ wsX7_man := List.mem_cons_of_mem _ (List.mem_append_left _ (List.mem_of_getElem? (l := wsX7_man_o) (i := 1) rfl))
theorem ow_X7_man_25 : Cond.fieldLink RX7 25 "WrongWord" "gate" "LWrongWord$Gate;" ∈ wsX7_man := List.mem_cons_of_mem _ (List.mem_append_left _ (List.mem_of_getElem? (l := wsX7_man_o) (i := 2) rfl))
theorem ow_X7_man_130 : Cond.fieldLink RX7 130 "WrongWord$Gate" "words" "I" ∈ wsX7_man := List.mem_cons_of_mem _ (List.mem_append_left _ (List.mem_of_getElem? (l := wsX7_man_o) (i := 3) rfl))
theorem hS_X7_fewest : yX7_fewest.cls ≠ "java/lang/invoke/MethodHandle" ∧ yX7_fewest.cls ≠ "java/lang/invoke/VarHandle" ∧ (parseMethodDescriptor yX7_fewest.desc).map (fun d => d.parameters.length) = some 0 := ⟨nm_X7.1, nm_X7.2, pd_5⟩
theorem hV_X7_fewest : yX7_fewest.cls = RX7 ∧ yX7_fewest.cls ≠ "java/lang/invoke/MethodHandle" ∧ yX7_fewest.cls ≠ "java/lang/invoke/VarHandle" ∧ (parseMethodDescriptor yX7_fewest.desc).map (fun d => d.parameters.length) = some 0 := ⟨rfl, hS_X7_fewest⟩
theorem fi_X7_fewest_X7 : ∀ w ∈ wsX70, w ∈ wsX7_fewest := fun _ h => List.mem_cons_of_mem _ (List.mem_append_right _ (List.mem_append_right _ (List.mem_append_right _ (List.mem_append_right _ (List.mem_append_left _ h)))))
theorem fi_X7_fewest_X2 : ∀ w ∈ wsX20, w ∈ wsX7_fewest := fun _ h => List.mem_cons_of_mem _ (List.mem_append_right _ (List.mem_append_right _ (List.mem_append_right _ (List.mem_append_right _ (List.mem_append_right _ (List.mem_append_left _ h))))))
theorem fi_X7_fewest_X4 : ∀ w ∈ wsX40, w ∈ wsX7_fewest := fun _ h => List.mem_cons_of_mem _ (List.mem_append_right _ (List.mem_append_right _ (List.mem_append_right _ (List.mem_append_right _ (List.mem_append_right _ (List.mem_append_right _ (List.mem_append_left _ h)))))))
theorem fi_X7_fewest_X3 : ∀ w ∈ wsX30, w ∈ wsX7_fewest := fun _ h => List.mem_cons_of_mem _ (List.mem_append_right _ (List.mem_append_right _ (List.mem_append_right _ (List.mem_append_right _ (List.mem_append_right _ (List.mem_append_right _ (List.mem_append_right _ (List.mem_append_left _ h))))))))
theorem ow_X7_fewest_136 : Cond.constant RX7 136 (-1000002) ∈ wsX7_fewest := List.mem_cons_of_mem _ (List.mem_append_left _ (List.mem_of_getElem? (l := wsX7_fewest_o) (i := 0) rfl))
theorem ow_X7_fewest_43 : Cond.fieldLink RX7 43 "WrongWord" "guesses" "LWrongWord$Guesses;" ∈ wsX7_fewest := List.mem_cons_of_mem _ (List.mem_append_left _ (List.mem_of_getElem? (l := wsX7_fewest_o) (i := 1) rfl))
theorem ow_X7_fewest_25 : Cond.fieldLink RX7 25 "WrongWord" "gate" "LWrongWord$Gate;" ∈ wsX7_fewest := List.mem_cons_of_mem _ (List.mem_append_left _ (List.mem_of_getElem? (l := wsX7_fewest_o) (i := 2) rfl))
theorem ow_X7_fewest_130 : Cond.fieldLink RX7 130 "WrongWord$Gate" "words" "I" ∈ wsX7_fewest := List.mem_cons_of_mem _ (List.mem_append_left _ (List.mem_of_getElem? (l := wsX7_fewest_o) (i := 3) rfl))
theorem hS_X7_hourOfLast : yX7_hourOfLast.cls ≠ "java/lang/invoke/MethodHandle" ∧ yX7_hourOfLast.cls ≠ "java/lang/invoke/VarHandle" ∧ (parseMethodDescriptor yX7_hourOfLast.desc).map (fun d => d.parameters.length) = some 3 := ⟨nm_X7.1, nm_X7.2, pd_25⟩
theorem hV_X7_hourOfLast : yX7_hourOfLast.cls = RX7 ∧ yX7_hourOfLast.cls ≠ "java/lang/invoke/MethodHandle" ∧ yX7_hourOfLast.cls ≠ "java/lang/invoke/VarHandle" ∧ (parseMethodDescriptor yX7_hourOfLast.desc).map (fun d => d.parameters.length) = some 3 := ⟨rfl, hS_X7_hourOfLast⟩
theorem fi_X7_hourOfLast_X5 : ∀ w ∈ wsX50, w ∈ wsX7_hourOfLast := fun _ h => List.mem_cons_of_mem _ (List.mem_append_right _ (List.mem_append_right _ (List.mem_append_right _ (List.mem_append_left _ h))))
theorem fi_X7_hourOfLast_X7 : ∀ w ∈ wsX70, w ∈ wsX7_hourOfLast := fun _ h => List.mem_cons_of_mem _ (List.mem_append_right _ (List.mem_append_right _ (List.mem_append_right _ (List.mem_append_right _ (List.mem_append_left _ h)))))
theorem fi_X7_hourOfLast_X2 : ∀ w ∈ wsX20, w ∈ wsX7_hourOfLast := fun _ h => List.mem_cons_of_mem _ (List.mem_append_right _ (List.mem_append_right _ (List.mem_append_right _ (List.mem_append_right _ (List.mem_append_right _ (List.mem_append_left _ h))))))
theorem fi_X7_hourOfLast_X4 : ∀ w ∈ wsX40, w ∈ wsX7_hourOfLast := fun _ h => List.mem_cons_of_mem _ (List.mem_append_right _ (List.mem_append_right _ (List.mem_append_right _ (List.mem_append_right _ (List.mem_append_right _ (List.mem_append_right _ (List.mem_append_left _ h)))))))
theorem ow_X7_hourOfLast_86 : Cond.fieldLink RX7 86 "WrongWord$Row" "items" "[I" ∈ wsX7_hourOfLast := List.mem_cons_of_mem _ (List.mem_append_left _ (List.mem_of_getElem? (l := wsX7_hourOfLast_o) (i := 0) rfl))
theorem ow_X7_hourOfLast_25 : Cond.fieldLink RX7 25 "WrongWord" "gate" "LWrongWord$Gate;" ∈ wsX7_hourOfLast := List.mem_cons_of_mem _ (List.mem_append_left _ (List.mem_of_getElem? (l := wsX7_hourOfLast_o) (i := 1) rfl))
theorem ow_X7_hourOfLast_175 : Cond.constant RX7 175 (-1000000) ∈ wsX7_hourOfLast := List.mem_cons_of_mem _ (List.mem_append_left _ (List.mem_of_getElem? (l := wsX7_hourOfLast_o) (i := 2) rfl))
theorem ow_X7_hourOfLast_130 : Cond.fieldLink RX7 130 "WrongWord$Gate" "words" "I" ∈ wsX7_hourOfLast := List.mem_cons_of_mem _ (List.mem_append_left _ (List.mem_of_getElem? (l := wsX7_hourOfLast_o) (i := 3) rfl))
theorem hS_X7_march : yX7_march.cls ≠ "java/lang/invoke/MethodHandle" ∧ yX7_march.cls ≠ "java/lang/invoke/VarHandle" ∧ (parseMethodDescriptor yX7_march.desc).map (fun d => d.parameters.length) = some 4 := ⟨nm_X7.1, nm_X7.2, pd_11⟩
theorem hV_X7_march : yX7_march.cls = RX7 ∧ yX7_march.cls ≠ "java/lang/invoke/MethodHandle" ∧ yX7_march.cls ≠ "java/lang/invoke/VarHandle" ∧ (parseMethodDescriptor yX7_march.desc).map (fun d => d.parameters.length) = some 4 := ⟨rfl, hS_X7_march⟩
theorem fi_X7_march_X7 : ∀ w ∈ wsX70, w ∈ wsX7_march := fun _ h => List.mem_cons_of_mem _ (List.mem_append_right _ (List.mem_append_right _ (List.mem_append_right _ (List.mem_append_right _ (List.mem_append_right _ (List.mem_append_right _ (List.mem_append_right _ (List.mem_append_left _ h))))))))
theorem fi_X7_march_X2 : ∀ w ∈ wsX20, w ∈ wsX7_march := fun _ h => List.mem_cons_of_mem _ (List.mem_append_right _ (List.mem_append_right _ (List.mem_append_right _ (List.mem_append_right _ (List.mem_append_right _ (List.mem_append_right _ (List.mem_append_right _ (List.mem_append_right _ (List.mem_append_left _ h)))))))))
theorem fi_X7_march_X5 : ∀ w ∈ wsX50, w ∈ wsX7_march := fun _ h => List.mem_cons_of_mem _ (List.mem_append_right _ (List.mem_append_right _ (List.mem_append_right _ (List.mem_append_right _ (List.mem_append_right _ (List.mem_append_right _ (List.mem_append_right _ (List.mem_append_right _ (List.mem_append_right _ (List.mem_append_left _ h))))))))))
theorem fi_X7_march_X4 : ∀ w ∈ wsX40, w ∈ wsX7_march := fun _ h => List.mem_cons_of_mem _ (List.mem_append_right _ (List.mem_append_right _ (List.mem_append_right _ (List.mem_append_right _ (List.mem_append_right _ (List.mem_append_right _ (List.mem_append_right _ (List.mem_append_right _ (List.mem_append_right _ (List.mem_append_right _ (List.mem_append_left _ h)))))))))))
theorem ow_X7_march_136 : Cond.constant RX7 136 (-1000002) ∈ wsX7_march := List.mem_cons_of_mem _ (List.mem_append_left _ (List.mem_of_getElem? (l := wsX7_march_o) (i := 0) rfl))
theorem ow_X7_march_59 : Cond.constant RX7 59 (-1000001) ∈ wsX7_march := List.mem_cons_of_mem _ (List.mem_append_left _ (List.mem_of_getElem? (l := wsX7_march_o) (i := 1) rfl))
theorem ow_X7_march_11 : Cond.fieldLink RX7 11 "WrongWord" "rows" "[LWrongWord$Row;" ∈ wsX7_march := List.mem_cons_of_mem _ (List.mem_append_left _ (List.mem_of_getElem? (l := wsX7_march_o) (i := 2) rfl))
theorem ow_X7_march_25 : Cond.fieldLink RX7 25 "WrongWord" "gate" "LWrongWord$Gate;" ∈ wsX7_march := List.mem_cons_of_mem _ (List.mem_append_left _ (List.mem_of_getElem? (l := wsX7_march_o) (i := 3) rfl))
theorem ow_X7_march_130 : Cond.fieldLink RX7 130 "WrongWord$Gate" "words" "I" ∈ wsX7_march := List.mem_cons_of_mem _ (List.mem_append_left _ (List.mem_of_getElem? (l := wsX7_march_o) (i := 4) rfl))
theorem ow_X7_march_333 : Cond.fieldLink RX7 333 "WrongWord" "latestFinding" "I" ∈ wsX7_march := List.mem_cons_of_mem _ (List.mem_append_left _ (List.mem_of_getElem? (l := wsX7_march_o) (i := 5) rfl))
theorem ow_X7_march_336 : Cond.constant RX7 336 (-1000010) ∈ wsX7_march := List.mem_cons_of_mem _ (List.mem_append_left _ (List.mem_of_getElem? (l := wsX7_march_o) (i := 6) rfl))
theorem ow_X7_march_86 : Cond.fieldLink RX7 86 "WrongWord$Row" "items" "[I" ∈ wsX7_march := List.mem_cons_of_mem _ (List.mem_append_left _ (List.mem_of_getElem? (l := wsX7_march_o) (i := 7) rfl))
theorem ow_X7_march_175 : Cond.constant RX7 175 (-1000000) ∈ wsX7_march := List.mem_cons_of_mem _ (List.mem_append_left _ (List.mem_of_getElem? (l := wsX7_march_o) (i := 8) rfl))
theorem hS_X7_cheap : yX7_cheap.cls ≠ "java/lang/invoke/MethodHandle" ∧ yX7_cheap.cls ≠ "java/lang/invoke/VarHandle" ∧ (parseMethodDescriptor yX7_cheap.desc).map (fun d => d.parameters.length) = some 3 := ⟨nm_X7.1, nm_X7.2, pd_23⟩
theorem hV_X7_cheap : yX7_cheap.cls = RX7 ∧ yX7_cheap.cls ≠ "java/lang/invoke/MethodHandle" ∧ yX7_cheap.cls ≠ "java/lang/invoke/VarHandle" ∧ (parseMethodDescriptor yX7_cheap.desc).map (fun d => d.parameters.length) = some 3 := ⟨rfl, hS_X7_cheap⟩
theorem fi_X7_cheap_X7 : ∀ w ∈ wsX70, w ∈ wsX7_cheap := fun _ h => List.mem_cons_of_mem _ (List.mem_append_right _ (List.mem_append_right _ (List.mem_append_right _ (List.mem_append_right _ (List.mem_append_right _ (List.mem_append_right _ (List.mem_append_left _ h)))))))
theorem fi_X7_cheap_X2 : ∀ w ∈ wsX20, w ∈ wsX7_cheap := fun _ h => List.mem_cons_of_mem _ (List.mem_append_right _ (List.mem_append_right _ (List.mem_append_right _ (List.mem_append_right _ (List.mem_append_right _ (List.mem_append_right _ (List.mem_append_right _ (List.mem_append_left _ h))))))))
theorem fi_X7_cheap_X4 : ∀ w ∈ wsX40, w ∈ wsX7_cheap := fun _ h => List.mem_cons_of_mem _ (List.mem_append_right _ (List.mem_append_right _ (List.mem_append_right _ (List.mem_append_right _ (List.mem_append_right _ (List.mem_append_right _ (List.mem_append_right _ (List.mem_append_right _ (List.mem_append_left _ h)))))))))
theorem ow_X7_cheap_136 : Cond.constant RX7 136 (-1000002) ∈ wsX7_cheap := List.mem_cons_of_mem _ (List.mem_append_left _ (List.mem_of_getElem? (l := wsX7_cheap_o) (i := 0) rfl))
theorem ow_X7_cheap_59 : Cond.constant RX7 59 (-1000001) ∈ wsX7_cheap := List.mem_cons_of_mem _ (List.mem_append_left _ (List.mem_of_getElem? (l := wsX7_cheap_o) (i := 1) rfl))
theorem ow_X7_cheap_25 : Cond.fieldLink RX7 25 "WrongWord" "gate" "LWrongWord$Gate;" ∈ wsX7_cheap := List.mem_cons_of_mem _ (List.mem_append_left _ (List.mem_of_getElem? (l := wsX7_cheap_o) (i := 2) rfl))
theorem ow_X7_cheap_130 : Cond.fieldLink RX7 130 "WrongWord$Gate" "words" "I" ∈ wsX7_cheap := List.mem_cons_of_mem _ (List.mem_append_left _ (List.mem_of_getElem? (l := wsX7_cheap_o) (i := 3) rfl))
theorem hS_X7_near : yX7_near.cls ≠ "java/lang/invoke/MethodHandle" ∧ yX7_near.cls ≠ "java/lang/invoke/VarHandle" ∧ (parseMethodDescriptor yX7_near.desc).map (fun d => d.parameters.length) = some 2 := ⟨nm_X7.1, nm_X7.2, pd_10⟩
theorem hV_X7_near : yX7_near.cls = RX7 ∧ yX7_near.cls ≠ "java/lang/invoke/MethodHandle" ∧ yX7_near.cls ≠ "java/lang/invoke/VarHandle" ∧ (parseMethodDescriptor yX7_near.desc).map (fun d => d.parameters.length) = some 2 := ⟨rfl, hS_X7_near⟩
theorem fi_X7_near_X7 : ∀ w ∈ wsX70, w ∈ wsX7_near := fun _ h => List.mem_cons_of_mem _ (List.mem_append_right _ (List.mem_append_right _ (List.mem_append_right _ (List.mem_append_right _ (List.mem_append_left _ h)))))
theorem fi_X7_near_X2 : ∀ w ∈ wsX20, w ∈ wsX7_near := fun _ h => List.mem_cons_of_mem _ (List.mem_append_right _ (List.mem_append_right _ (List.mem_append_right _ (List.mem_append_right _ (List.mem_append_right _ (List.mem_append_left _ h))))))
theorem ow_X7_near_59 : Cond.constant RX7 59 (-1000001) ∈ wsX7_near := List.mem_cons_of_mem _ (List.mem_append_left _ (List.mem_of_getElem? (l := wsX7_near_o) (i := 0) rfl))
theorem ow_X7_near_25 : Cond.fieldLink RX7 25 "WrongWord" "gate" "LWrongWord$Gate;" ∈ wsX7_near := List.mem_cons_of_mem _ (List.mem_append_left _ (List.mem_of_getElem? (l := wsX7_near_o) (i := 1) rfl))
theorem ow_X7_near_175 : Cond.constant RX7 175 (-1000000) ∈ wsX7_near := List.mem_cons_of_mem _ (List.mem_append_left _ (List.mem_of_getElem? (l := wsX7_near_o) (i := 2) rfl))
theorem ow_X7_near_130 : Cond.fieldLink RX7 130 "WrongWord$Gate" "words" "I" ∈ wsX7_near := List.mem_cons_of_mem _ (List.mem_append_left _ (List.mem_of_getElem? (l := wsX7_near_o) (i := 3) rfl))
theorem hS_X7_rulesThatTell : yX7_rulesThatTell.cls ≠ "java/lang/invoke/MethodHandle" ∧ yX7_rulesThatTell.cls ≠ "java/lang/invoke/VarHandle" ∧ (parseMethodDescriptor yX7_rulesThatTell.desc).map (fun d => d.parameters.length) = some 4 := ⟨nm_X7.1, nm_X7.2, pd_26⟩
theorem hV_X7_rulesThatTell : yX7_rulesThatTell.cls = RX7 ∧ yX7_rulesThatTell.cls ≠ "java/lang/invoke/MethodHandle" ∧ yX7_rulesThatTell.cls ≠ "java/lang/invoke/VarHandle" ∧ (parseMethodDescriptor yX7_rulesThatTell.desc).map (fun d => d.parameters.length) = some 4 := ⟨rfl, hS_X7_rulesThatTell⟩
theorem fi_X7_rulesThatTell_X7 : ∀ w ∈ wsX70, w ∈ wsX7_rulesThatTell := fun _ h => List.mem_cons_of_mem _ (List.mem_append_right _ (List.mem_append_right _ (List.mem_append_right _ (List.mem_append_left _ h))))
theorem fi_X7_rulesThatTell_X2 : ∀ w ∈ wsX20, w ∈ wsX7_rulesThatTell := fun _ h => List.mem_cons_of_mem _ (List.mem_append_right _ (List.mem_append_right _ (List.mem_append_right _ (List.mem_append_right _ (List.mem_append_left _ h)))))
theorem fi_X7_rulesThatTell_X4 : ∀ w ∈ wsX40, w ∈ wsX7_rulesThatTell := fun _ h => List.mem_cons_of_mem _ (List.mem_append_right _ (List.mem_append_right _ (List.mem_append_right _ (List.mem_append_right _ (List.mem_append_right _ (List.mem_append_left _ h))))))
theorem fi_X7_rulesThatTell_X5 : ∀ w ∈ wsX50, w ∈ wsX7_rulesThatTell := fun _ h => List.mem_cons_of_mem _ (List.mem_append_right _ (List.mem_append_right _ (List.mem_append_right _ (List.mem_append_right _ (List.mem_append_right _ (List.mem_append_right _ (List.mem_append_left _ h)))))))
theorem ow_X7_rulesThatTell_25 : Cond.fieldLink RX7 25 "WrongWord" "gate" "LWrongWord$Gate;" ∈ wsX7_rulesThatTell := List.mem_cons_of_mem _ (List.mem_append_left _ (List.mem_of_getElem? (l := wsX7_rulesThatTell_o) (i := 0) rfl))
theorem ow_X7_rulesThatTell_137 : Cond.fieldLink RX7 137 "WrongWord$Gate" "now" "LWrongWord$Moment;" ∈ wsX7_rulesThatTell := List.mem_cons_of_mem _ (List.mem_append_left _ (List.mem_of_getElem? (l := wsX7_rulesThatTell_o) (i := 1) rfl))
theorem ow_X7_rulesThatTell_184 : Cond.fieldLink RX7 184 "WrongWord$Moment" "start" "I" ∈ wsX7_rulesThatTell := List.mem_cons_of_mem _ (List.mem_append_left _ (List.mem_of_getElem? (l := wsX7_rulesThatTell_o) (i := 2) rfl))
theorem ow_X7_rulesThatTell_340 : Cond.fieldLink RX7 340 "WrongWord$Gate" "step" "I" ∈ wsX7_rulesThatTell := List.mem_cons_of_mem _ (List.mem_append_left _ (List.mem_of_getElem? (l := wsX7_rulesThatTell_o) (i := 3) rfl))
theorem ow_X7_rulesThatTell_343 : Cond.fieldLink RX7 343 "WrongWord$Gate" "shrove" "I" ∈ wsX7_rulesThatTell := List.mem_cons_of_mem _ (List.mem_append_left _ (List.mem_of_getElem? (l := wsX7_rulesThatTell_o) (i := 4) rfl))
theorem ow_X7_rulesThatTell_141 : Cond.fieldLink RX7 141 "WrongWord$Moment" "night" "I" ∈ wsX7_rulesThatTell := List.mem_cons_of_mem _ (List.mem_append_left _ (List.mem_of_getElem? (l := wsX7_rulesThatTell_o) (i := 5) rfl))
theorem ow_X7_rulesThatTell_86 : Cond.fieldLink RX7 86 "WrongWord$Row" "items" "[I" ∈ wsX7_rulesThatTell := List.mem_cons_of_mem _ (List.mem_append_left _ (List.mem_of_getElem? (l := wsX7_rulesThatTell_o) (i := 6) rfl))
theorem hS_X7_rules : yX7_rules.cls ≠ "java/lang/invoke/MethodHandle" ∧ yX7_rules.cls ≠ "java/lang/invoke/VarHandle" ∧ (parseMethodDescriptor yX7_rules.desc).map (fun d => d.parameters.length) = some 4 := ⟨nm_X7.1, nm_X7.2, pd_11⟩
theorem hV_X7_rules : yX7_rules.cls = RX7 ∧ yX7_rules.cls ≠ "java/lang/invoke/MethodHandle" ∧ yX7_rules.cls ≠ "java/lang/invoke/VarHandle" ∧ (parseMethodDescriptor yX7_rules.desc).map (fun d => d.parameters.length) = some 4 := ⟨rfl, hS_X7_rules⟩
theorem fi_X7_rules_X7 : ∀ w ∈ wsX70, w ∈ wsX7_rules := fun _ h => List.mem_cons_of_mem _ (List.mem_append_right _ (List.mem_append_right _ (List.mem_append_right _ (List.mem_append_right _ (List.mem_append_right _ (List.mem_append_right _ (List.mem_append_right _ (List.mem_append_left _ h))))))))
theorem fi_X7_rules_X2 : ∀ w ∈ wsX20, w ∈ wsX7_rules := fun _ h => List.mem_cons_of_mem _ (List.mem_append_right _ (List.mem_append_right _ (List.mem_append_right _ (List.mem_append_right _ (List.mem_append_right _ (List.mem_append_right _ (List.mem_append_right _ (List.mem_append_right _ (List.mem_append_left _ h)))))))))
theorem fi_X7_rules_X5 : ∀ w ∈ wsX50, w ∈ wsX7_rules := fun _ h => List.mem_cons_of_mem _ (List.mem_append_right _ (List.mem_append_right _ (List.mem_append_right _ (List.mem_append_right _ (List.mem_append_right _ (List.mem_append_right _ (List.mem_append_right _ (List.mem_append_right _ (List.mem_append_right _ (List.mem_append_left _ h))))))))))
theorem fi_X7_rules_X4 : ∀ w ∈ wsX40, w ∈ wsX7_rules := fun _ h => List.mem_cons_of_mem _ (List.mem_append_right _ (List.mem_append_right _ (List.mem_append_right _ (List.mem_append_right _ (List.mem_append_right _ (List.mem_append_right _ (List.mem_append_right _ (List.mem_append_right _ (List.mem_append_right _ (List.mem_append_right _ (List.mem_append_left _ h)))))))))))
theorem ow_X7_rules_136 : Cond.constant RX7 136 (-1000002) ∈ wsX7_rules := List.mem_cons_of_mem _ (List.mem_append_left _ (List.mem_of_getElem? (l := wsX7_rules_o) (i := 0) rfl))
theorem ow_X7_rules_59 : Cond.constant RX7 59 (-1000001) ∈ wsX7_rules := List.mem_cons_of_mem _ (List.mem_append_left _ (List.mem_of_getElem? (l := wsX7_rules_o) (i := 1) rfl))
theorem ow_X7_rules_11 : Cond.fieldLink RX7 11 "WrongWord" "rows" "[LWrongWord$Row;" ∈ wsX7_rules := List.mem_cons_of_mem _ (List.mem_append_left _ (List.mem_of_getElem? (l := wsX7_rules_o) (i := 2) rfl))
theorem ow_X7_rules_25 : Cond.fieldLink RX7 25 "WrongWord" "gate" "LWrongWord$Gate;" ∈ wsX7_rules := List.mem_cons_of_mem _ (List.mem_append_left _ (List.mem_of_getElem? (l := wsX7_rules_o) (i := 3) rfl))
theorem ow_X7_rules_130 : Cond.fieldLink RX7 130 "WrongWord$Gate" "words" "I" ∈ wsX7_rules := List.mem_cons_of_mem _ (List.mem_append_left _ (List.mem_of_getElem? (l := wsX7_rules_o) (i := 4) rfl))
theorem ow_X7_rules_333 : Cond.fieldLink RX7 333 "WrongWord" "latestFinding" "I" ∈ wsX7_rules := List.mem_cons_of_mem _ (List.mem_append_left _ (List.mem_of_getElem? (l := wsX7_rules_o) (i := 5) rfl))
theorem ow_X7_rules_336 : Cond.constant RX7 336 (-1000010) ∈ wsX7_rules := List.mem_cons_of_mem _ (List.mem_append_left _ (List.mem_of_getElem? (l := wsX7_rules_o) (i := 6) rfl))
theorem ow_X7_rules_137 : Cond.fieldLink RX7 137 "WrongWord$Gate" "now" "LWrongWord$Moment;" ∈ wsX7_rules := List.mem_cons_of_mem _ (List.mem_append_left _ (List.mem_of_getElem? (l := wsX7_rules_o) (i := 7) rfl))
theorem ow_X7_rules_184 : Cond.fieldLink RX7 184 "WrongWord$Moment" "start" "I" ∈ wsX7_rules := List.mem_cons_of_mem _ (List.mem_append_left _ (List.mem_of_getElem? (l := wsX7_rules_o) (i := 8) rfl))
theorem ow_X7_rules_340 : Cond.fieldLink RX7 340 "WrongWord$Gate" "step" "I" ∈ wsX7_rules := List.mem_cons_of_mem _ (List.mem_append_left _ (List.mem_of_getElem? (l := wsX7_rules_o) (i := 9) rfl))
theorem ow_X7_rules_343 : Cond.fieldLink RX7 343 "WrongWord$Gate" "shrove" "I" ∈ wsX7_rules := List.mem_cons_of_mem _ (List.mem_append_left _ (List.mem_of_getElem? (l := wsX7_rules_o) (i := 10) rfl))
theorem ow_X7_rules_141 : Cond.fieldLink RX7 141 "WrongWord$Moment" "night" "I" ∈ wsX7_rules := List.mem_cons_of_mem _ (List.mem_append_left _ (List.mem_of_getElem? (l := wsX7_rules_o) (i := 11) rfl))
theorem ow_X7_rules_86 : Cond.fieldLink RX7 86 "WrongWord$Row" "items" "[I" ∈ wsX7_rules := List.mem_cons_of_mem _ (List.mem_append_left _ (List.mem_of_getElem? (l := wsX7_rules_o) (i := 12) rfl))
theorem hS_X7_fitsTold : yX7_fitsTold.cls ≠ "java/lang/invoke/MethodHandle" ∧ yX7_fitsTold.cls ≠ "java/lang/invoke/VarHandle" ∧ (parseMethodDescriptor yX7_fitsTold.desc).map (fun d => d.parameters.length) = some 4 := ⟨nm_X7.1, nm_X7.2, pd_27⟩
theorem hV_X7_fitsTold : yX7_fitsTold.cls = RX7 ∧ yX7_fitsTold.cls ≠ "java/lang/invoke/MethodHandle" ∧ yX7_fitsTold.cls ≠ "java/lang/invoke/VarHandle" ∧ (parseMethodDescriptor yX7_fitsTold.desc).map (fun d => d.parameters.length) = some 4 := ⟨rfl, hS_X7_fitsTold⟩
theorem fi_X7_fitsTold_X7 : ∀ w ∈ wsX70, w ∈ wsX7_fitsTold := fun _ h => List.mem_cons_of_mem _ (List.mem_append_right _ (List.mem_append_right _ (List.mem_append_right _ (List.mem_append_left _ h))))
theorem fi_X7_fitsTold_X2 : ∀ w ∈ wsX20, w ∈ wsX7_fitsTold := fun _ h => List.mem_cons_of_mem _ (List.mem_append_right _ (List.mem_append_right _ (List.mem_append_right _ (List.mem_append_right _ (List.mem_append_left _ h)))))
theorem fi_X7_fitsTold_X4 : ∀ w ∈ wsX40, w ∈ wsX7_fitsTold := fun _ h => List.mem_cons_of_mem _ (List.mem_append_right _ (List.mem_append_right _ (List.mem_append_right _ (List.mem_append_right _ (List.mem_append_right _ (List.mem_append_left _ h))))))
theorem fi_X7_fitsTold_X5 : ∀ w ∈ wsX50, w ∈ wsX7_fitsTold := fun _ h => List.mem_cons_of_mem _ (List.mem_append_right _ (List.mem_append_right _ (List.mem_append_right _ (List.mem_append_right _ (List.mem_append_right _ (List.mem_append_right _ (List.mem_append_left _ h)))))))
theorem ow_X7_fitsTold_25 : Cond.fieldLink RX7 25 "WrongWord" "gate" "LWrongWord$Gate;" ∈ wsX7_fitsTold := List.mem_cons_of_mem _ (List.mem_append_left _ (List.mem_of_getElem? (l := wsX7_fitsTold_o) (i := 0) rfl))
theorem ow_X7_fitsTold_130 : Cond.fieldLink RX7 130 "WrongWord$Gate" "words" "I" ∈ wsX7_fitsTold := List.mem_cons_of_mem _ (List.mem_append_left _ (List.mem_of_getElem? (l := wsX7_fitsTold_o) (i := 1) rfl))
theorem ow_X7_fitsTold_137 : Cond.fieldLink RX7 137 "WrongWord$Gate" "now" "LWrongWord$Moment;" ∈ wsX7_fitsTold := List.mem_cons_of_mem _ (List.mem_append_left _ (List.mem_of_getElem? (l := wsX7_fitsTold_o) (i := 2) rfl))
theorem ow_X7_fitsTold_141 : Cond.fieldLink RX7 141 "WrongWord$Moment" "night" "I" ∈ wsX7_fitsTold := List.mem_cons_of_mem _ (List.mem_append_left _ (List.mem_of_getElem? (l := wsX7_fitsTold_o) (i := 3) rfl))
theorem ow_X7_fitsTold_86 : Cond.fieldLink RX7 86 "WrongWord$Row" "items" "[I" ∈ wsX7_fitsTold := List.mem_cons_of_mem _ (List.mem_append_left _ (List.mem_of_getElem? (l := wsX7_fitsTold_o) (i := 4) rfl))
theorem hS_X7_kindsThatFit : yX7_kindsThatFit.cls ≠ "java/lang/invoke/MethodHandle" ∧ yX7_kindsThatFit.cls ≠ "java/lang/invoke/VarHandle" ∧ (parseMethodDescriptor yX7_kindsThatFit.desc).map (fun d => d.parameters.length) = some 2 := ⟨nm_X7.1, nm_X7.2, pd_28⟩
theorem hV_X7_kindsThatFit : yX7_kindsThatFit.cls = RX7 ∧ yX7_kindsThatFit.cls ≠ "java/lang/invoke/MethodHandle" ∧ yX7_kindsThatFit.cls ≠ "java/lang/invoke/VarHandle" ∧ (parseMethodDescriptor yX7_kindsThatFit.desc).map (fun d => d.parameters.length) = some 2 := ⟨rfl, hS_X7_kindsThatFit⟩
theorem fi_X7_kindsThatFit_X7 : ∀ w ∈ wsX70, w ∈ wsX7_kindsThatFit := fun _ h => List.mem_cons_of_mem _ (List.mem_append_right _ (List.mem_append_right _ (List.mem_append_right _ (List.mem_append_right _ (List.mem_append_left _ h)))))
theorem fi_X7_kindsThatFit_X2 : ∀ w ∈ wsX20, w ∈ wsX7_kindsThatFit := fun _ h => List.mem_cons_of_mem _ (List.mem_append_right _ (List.mem_append_right _ (List.mem_append_right _ (List.mem_append_right _ (List.mem_append_right _ (List.mem_append_left _ h))))))
theorem fi_X7_kindsThatFit_X4 : ∀ w ∈ wsX40, w ∈ wsX7_kindsThatFit := fun _ h => List.mem_cons_of_mem _ (List.mem_append_right _ (List.mem_append_right _ (List.mem_append_right _ (List.mem_append_right _ (List.mem_append_right _ (List.mem_append_right _ (List.mem_append_left _ h)))))))
theorem fi_X7_kindsThatFit_X5 : ∀ w ∈ wsX50, w ∈ wsX7_kindsThatFit := fun _ h => List.mem_cons_of_mem _ (List.mem_append_right _ (List.mem_append_right _ (List.mem_append_right _ (List.mem_append_right _ (List.mem_append_right _ (List.mem_append_right _ (List.mem_append_right _ (List.mem_append_left _ h))))))))
theorem ow_X7_kindsThatFit_25 : Cond.fieldLink RX7 25 "WrongWord" "gate" "LWrongWord$Gate;" ∈ wsX7_kindsThatFit := List.mem_cons_of_mem _ (List.mem_append_left _ (List.mem_of_getElem? (l := wsX7_kindsThatFit_o) (i := 0) rfl))
theorem ow_X7_kindsThatFit_130 : Cond.fieldLink RX7 130 "WrongWord$Gate" "words" "I" ∈ wsX7_kindsThatFit := List.mem_cons_of_mem _ (List.mem_append_left _ (List.mem_of_getElem? (l := wsX7_kindsThatFit_o) (i := 1) rfl))
theorem ow_X7_kindsThatFit_137 : Cond.fieldLink RX7 137 "WrongWord$Gate" "now" "LWrongWord$Moment;" ∈ wsX7_kindsThatFit := List.mem_cons_of_mem _ (List.mem_append_left _ (List.mem_of_getElem? (l := wsX7_kindsThatFit_o) (i := 2) rfl))
theorem ow_X7_kindsThatFit_141 : Cond.fieldLink RX7 141 "WrongWord$Moment" "night" "I" ∈ wsX7_kindsThatFit := List.mem_cons_of_mem _ (List.mem_append_left _ (List.mem_of_getElem? (l := wsX7_kindsThatFit_o) (i := 3) rfl))
theorem ow_X7_kindsThatFit_86 : Cond.fieldLink RX7 86 "WrongWord$Row" "items" "[I" ∈ wsX7_kindsThatFit := List.mem_cons_of_mem _ (List.mem_append_left _ (List.mem_of_getElem? (l := wsX7_kindsThatFit_o) (i := 4) rfl))
theorem hS_X7_secretsThatFit : yX7_secretsThatFit.cls ≠ "java/lang/invoke/MethodHandle" ∧ yX7_secretsThatFit.cls ≠ "java/lang/invoke/VarHandle" ∧ (parseMethodDescriptor yX7_secretsThatFit.desc).map (fun d => d.parameters.length) = some 3 := ⟨nm_X7.1, nm_X7.2, pd_29⟩
theorem hV_X7_secretsThatFit : yX7_secretsThatFit.cls = RX7 ∧ yX7_secretsThatFit.cls ≠ "java/lang/invoke/MethodHandle" ∧ yX7_secretsThatFit.cls ≠ "java/lang/invoke/VarHandle" ∧ (parseMethodDescriptor yX7_secretsThatFit.desc).map (fun d => d.parameters.length) = some 3 := ⟨rfl, hS_X7_secretsThatFit⟩
theorem fi_X7_secretsThatFit_X7 : ∀ w ∈ wsX70, w ∈ wsX7_secretsThatFit := fun _ h => List.mem_cons_of_mem _ (List.mem_append_right _ (List.mem_append_right _ (List.mem_append_right _ (List.mem_append_left _ h))))
theorem fi_X7_secretsThatFit_X2 : ∀ w ∈ wsX20, w ∈ wsX7_secretsThatFit := fun _ h => List.mem_cons_of_mem _ (List.mem_append_right _ (List.mem_append_right _ (List.mem_append_right _ (List.mem_append_right _ (List.mem_append_left _ h)))))
theorem fi_X7_secretsThatFit_X4 : ∀ w ∈ wsX40, w ∈ wsX7_secretsThatFit := fun _ h => List.mem_cons_of_mem _ (List.mem_append_right _ (List.mem_append_right _ (List.mem_append_right _ (List.mem_append_right _ (List.mem_append_right _ (List.mem_append_left _ h))))))
theorem fi_X7_secretsThatFit_X5 : ∀ w ∈ wsX50, w ∈ wsX7_secretsThatFit := fun _ h => List.mem_cons_of_mem _ (List.mem_append_right _ (List.mem_append_right _ (List.mem_append_right _ (List.mem_append_right _ (List.mem_append_right _ (List.mem_append_right _ (List.mem_append_left _ h)))))))
theorem ow_X7_secretsThatFit_25 : Cond.fieldLink RX7 25 "WrongWord" "gate" "LWrongWord$Gate;" ∈ wsX7_secretsThatFit := List.mem_cons_of_mem _ (List.mem_append_left _ (List.mem_of_getElem? (l := wsX7_secretsThatFit_o) (i := 0) rfl))
theorem ow_X7_secretsThatFit_130 : Cond.fieldLink RX7 130 "WrongWord$Gate" "words" "I" ∈ wsX7_secretsThatFit := List.mem_cons_of_mem _ (List.mem_append_left _ (List.mem_of_getElem? (l := wsX7_secretsThatFit_o) (i := 1) rfl))
theorem ow_X7_secretsThatFit_137 : Cond.fieldLink RX7 137 "WrongWord$Gate" "now" "LWrongWord$Moment;" ∈ wsX7_secretsThatFit := List.mem_cons_of_mem _ (List.mem_append_left _ (List.mem_of_getElem? (l := wsX7_secretsThatFit_o) (i := 2) rfl))
theorem ow_X7_secretsThatFit_141 : Cond.fieldLink RX7 141 "WrongWord$Moment" "night" "I" ∈ wsX7_secretsThatFit := List.mem_cons_of_mem _ (List.mem_append_left _ (List.mem_of_getElem? (l := wsX7_secretsThatFit_o) (i := 3) rfl))
theorem ow_X7_secretsThatFit_86 : Cond.fieldLink RX7 86 "WrongWord$Row" "items" "[I" ∈ wsX7_secretsThatFit := List.mem_cons_of_mem _ (List.mem_append_left _ (List.mem_of_getElem? (l := wsX7_secretsThatFit_o) (i := 4) rfl))
theorem hS_X7_fits : yX7_fits.cls ≠ "java/lang/invoke/MethodHandle" ∧ yX7_fits.cls ≠ "java/lang/invoke/VarHandle" ∧ (parseMethodDescriptor yX7_fits.desc).map (fun d => d.parameters.length) = some 4 := ⟨nm_X7.1, nm_X7.2, pd_11⟩
theorem hV_X7_fits : yX7_fits.cls = RX7 ∧ yX7_fits.cls ≠ "java/lang/invoke/MethodHandle" ∧ yX7_fits.cls ≠ "java/lang/invoke/VarHandle" ∧ (parseMethodDescriptor yX7_fits.desc).map (fun d => d.parameters.length) = some 4 := ⟨rfl, hS_X7_fits⟩
theorem fi_X7_fits_X7 : ∀ w ∈ wsX70, w ∈ wsX7_fits := fun _ h => List.mem_cons_of_mem _ (List.mem_append_right _ (List.mem_append_right _ (List.mem_append_right _ (List.mem_append_right _ (List.mem_append_right _ (List.mem_append_right _ (List.mem_append_right _ (List.mem_append_right _ (List.mem_append_left _ h)))))))))
theorem fi_X7_fits_X2 : ∀ w ∈ wsX20, w ∈ wsX7_fits := fun _ h => List.mem_cons_of_mem _ (List.mem_append_right _ (List.mem_append_right _ (List.mem_append_right _ (List.mem_append_right _ (List.mem_append_right _ (List.mem_append_right _ (List.mem_append_right _ (List.mem_append_right _ (List.mem_append_right _ (List.mem_append_left _ h))))))))))
theorem fi_X7_fits_X5 : ∀ w ∈ wsX50, w ∈ wsX7_fits := fun _ h => List.mem_cons_of_mem _ (List.mem_append_right _ (List.mem_append_right _ (List.mem_append_right _ (List.mem_append_right _ (List.mem_append_right _ (List.mem_append_right _ (List.mem_append_right _ (List.mem_append_right _ (List.mem_append_right _ (List.mem_append_right _ (List.mem_append_left _ h)))))))))))
theorem fi_X7_fits_X4 : ∀ w ∈ wsX40, w ∈ wsX7_fits := fun _ h => List.mem_cons_of_mem _ (List.mem_append_right _ (List.mem_append_right _ (List.mem_append_right _ (List.mem_append_right _ (List.mem_append_right _ (List.mem_append_right _ (List.mem_append_right _ (List.mem_append_right _ (List.mem_append_right _ (List.mem_append_right _ (List.mem_append_right _ (List.mem_append_left _ h))))))))))))
theorem ow_X7_fits_59 : Cond.constant RX7 59 (-1000001) ∈ wsX7_fits := List.mem_cons_of_mem _ (List.mem_append_left _ (List.mem_of_getElem? (l := wsX7_fits_o) (i := 0) rfl))
theorem ow_X7_fits_11 : Cond.fieldLink RX7 11 "WrongWord" "rows" "[LWrongWord$Row;" ∈ wsX7_fits := List.mem_cons_of_mem _ (List.mem_append_left _ (List.mem_of_getElem? (l := wsX7_fits_o) (i := 1) rfl))
theorem ow_X7_fits_25 : Cond.fieldLink RX7 25 "WrongWord" "gate" "LWrongWord$Gate;" ∈ wsX7_fits := List.mem_cons_of_mem _ (List.mem_append_left _ (List.mem_of_getElem? (l := wsX7_fits_o) (i := 2) rfl))
theorem ow_X7_fits_130 : Cond.fieldLink RX7 130 "WrongWord$Gate" "words" "I" ∈ wsX7_fits := List.mem_cons_of_mem _ (List.mem_append_left _ (List.mem_of_getElem? (l := wsX7_fits_o) (i := 3) rfl))
theorem ow_X7_fits_278 : Cond.fieldLink RX7 278 "WrongWord$Gate" "kinds" "[I" ∈ wsX7_fits := List.mem_cons_of_mem _ (List.mem_append_left _ (List.mem_of_getElem? (l := wsX7_fits_o) (i := 4) rfl))
theorem ow_X7_fits_327 : Cond.fieldLink RX7 327 "WrongWord$Gate" "guards" "I" ∈ wsX7_fits := List.mem_cons_of_mem _ (List.mem_append_left _ (List.mem_of_getElem? (l := wsX7_fits_o) (i := 5) rfl))
theorem ow_X7_fits_333 : Cond.fieldLink RX7 333 "WrongWord" "latestFinding" "I" ∈ wsX7_fits := List.mem_cons_of_mem _ (List.mem_append_left _ (List.mem_of_getElem? (l := wsX7_fits_o) (i := 6) rfl))
theorem ow_X7_fits_336 : Cond.constant RX7 336 (-1000010) ∈ wsX7_fits := List.mem_cons_of_mem _ (List.mem_append_left _ (List.mem_of_getElem? (l := wsX7_fits_o) (i := 7) rfl))
theorem ow_X7_fits_137 : Cond.fieldLink RX7 137 "WrongWord$Gate" "now" "LWrongWord$Moment;" ∈ wsX7_fits := List.mem_cons_of_mem _ (List.mem_append_left _ (List.mem_of_getElem? (l := wsX7_fits_o) (i := 11) rfl))
theorem ow_X7_fits_141 : Cond.fieldLink RX7 141 "WrongWord$Moment" "night" "I" ∈ wsX7_fits := List.mem_cons_of_mem _ (List.mem_append_left _ (List.mem_of_getElem? (l := wsX7_fits_o) (i := 12) rfl))
theorem ow_X7_fits_86 : Cond.fieldLink RX7 86 "WrongWord$Row" "items" "[I" ∈ wsX7_fits := List.mem_cons_of_mem _ (List.mem_append_left _ (List.mem_of_getElem? (l := wsX7_fits_o) (i := 13) rfl))
theorem hS_X7_commonDivisor : yX7_commonDivisor.cls ≠ "java/lang/invoke/MethodHandle" ∧ yX7_commonDivisor.cls ≠ "java/lang/invoke/VarHandle" ∧ (parseMethodDescriptor yX7_commonDivisor.desc).map (fun d => d.parameters.length) = some 2 := ⟨nm_X7.1, nm_X7.2, pd_10⟩
theorem hV_X7_commonDivisor : yX7_commonDivisor.cls = RX7 ∧ yX7_commonDivisor.cls ≠ "java/lang/invoke/MethodHandle" ∧ yX7_commonDivisor.cls ≠ "java/lang/invoke/VarHandle" ∧ (parseMethodDescriptor yX7_commonDivisor.desc).map (fun d => d.parameters.length) = some 2 := ⟨rfl, hS_X7_commonDivisor⟩
theorem hS_X7_lowest : yX7_lowest.cls ≠ "java/lang/invoke/MethodHandle" ∧ yX7_lowest.cls ≠ "java/lang/invoke/VarHandle" ∧ (parseMethodDescriptor yX7_lowest.desc).map (fun d => d.parameters.length) = some 2 := ⟨nm_X7.1, nm_X7.2, pd_10⟩
theorem hV_X7_lowest : yX7_lowest.cls = RX7 ∧ yX7_lowest.cls ≠ "java/lang/invoke/MethodHandle" ∧ yX7_lowest.cls ≠ "java/lang/invoke/VarHandle" ∧ (parseMethodDescriptor yX7_lowest.desc).map (fun d => d.parameters.length) = some 2 := ⟨rfl, hS_X7_lowest⟩
theorem hS_X7_sure : yX7_sure.cls ≠ "java/lang/invoke/MethodHandle" ∧ yX7_sure.cls ≠ "java/lang/invoke/VarHandle" ∧ (parseMethodDescriptor yX7_sure.desc).map (fun d => d.parameters.length) = some 4 := ⟨nm_X7.1, nm_X7.2, pd_11⟩
theorem hV_X7_sure : yX7_sure.cls = RX7 ∧ yX7_sure.cls ≠ "java/lang/invoke/MethodHandle" ∧ yX7_sure.cls ≠ "java/lang/invoke/VarHandle" ∧ (parseMethodDescriptor yX7_sure.desc).map (fun d => d.parameters.length) = some 4 := ⟨rfl, hS_X7_sure⟩
theorem fi_X7_sure_X7 : ∀ w ∈ wsX70, w ∈ wsX7_sure := fun _ h => List.mem_cons_of_mem _ (List.mem_append_right _ (List.mem_append_right _ (List.mem_append_right _ (List.mem_append_right _ (List.mem_append_right _ (List.mem_append_right _ (List.mem_append_right _ (List.mem_append_right _ (List.mem_append_left _ h)))))))))
theorem fi_X7_sure_X2 : ∀ w ∈ wsX20, w ∈ wsX7_sure := fun _ h => List.mem_cons_of_mem _ (List.mem_append_right _ (List.mem_append_right _ (List.mem_append_right _ (List.mem_append_right _ (List.mem_append_right _ (List.mem_append_right _ (List.mem_append_right _ (List.mem_append_right _ (List.mem_append_right _ (List.mem_append_left _ h))))))))))
theorem fi_X7_sure_X4 : ∀ w ∈ wsX40, w ∈ wsX7_sure := fun _ h => List.mem_cons_of_mem _ (List.mem_append_right _ (List.mem_append_right _ (List.mem_append_right _ (List.mem_append_right _ (List.mem_append_right _ (List.mem_append_right _ (List.mem_append_right _ (List.mem_append_right _ (List.mem_append_right _ (List.mem_append_right _ (List.mem_append_left _ h)))))))))))
theorem ow_X7_sure_59 : Cond.constant RX7 59 (-1000001) ∈ wsX7_sure := List.mem_cons_of_mem _ (List.mem_append_left _ (List.mem_of_getElem? (l := wsX7_sure_o) (i := 0) rfl))
theorem ow_X7_sure_25 : Cond.fieldLink RX7 25 "WrongWord" "gate" "LWrongWord$Gate;" ∈ wsX7_sure := List.mem_cons_of_mem _ (List.mem_append_left _ (List.mem_of_getElem? (l := wsX7_sure_o) (i := 1) rfl))
theorem ow_X7_sure_130 : Cond.fieldLink RX7 130 "WrongWord$Gate" "words" "I" ∈ wsX7_sure := List.mem_cons_of_mem _ (List.mem_append_left _ (List.mem_of_getElem? (l := wsX7_sure_o) (i := 2) rfl))
theorem hS_X7_drawn : yX7_drawn.cls ≠ "java/lang/invoke/MethodHandle" ∧ yX7_drawn.cls ≠ "java/lang/invoke/VarHandle" ∧ (parseMethodDescriptor yX7_drawn.desc).map (fun d => d.parameters.length) = some 3 := ⟨nm_X7.1, nm_X7.2, pd_23⟩
theorem hV_X7_drawn : yX7_drawn.cls = RX7 ∧ yX7_drawn.cls ≠ "java/lang/invoke/MethodHandle" ∧ yX7_drawn.cls ≠ "java/lang/invoke/VarHandle" ∧ (parseMethodDescriptor yX7_drawn.desc).map (fun d => d.parameters.length) = some 3 := ⟨rfl, hS_X7_drawn⟩
theorem fi_X7_drawn_X7 : ∀ w ∈ wsX70, w ∈ wsX7_drawn := fun _ h => List.mem_cons_of_mem _ (List.mem_append_right _ (List.mem_append_right _ (List.mem_append_right _ (List.mem_append_right _ (List.mem_append_left _ h)))))
theorem fi_X7_drawn_X2 : ∀ w ∈ wsX20, w ∈ wsX7_drawn := fun _ h => List.mem_cons_of_mem _ (List.mem_append_right _ (List.mem_append_right _ (List.mem_append_right _ (List.mem_append_right _ (List.mem_append_right _ (List.mem_append_left _ h))))))
theorem fi_X7_drawn_X4 : ∀ w ∈ wsX40, w ∈ wsX7_drawn := fun _ h => List.mem_cons_of_mem _ (List.mem_append_right _ (List.mem_append_right _ (List.mem_append_right _ (List.mem_append_right _ (List.mem_append_right _ (List.mem_append_right _ (List.mem_append_left _ h)))))))
theorem ow_X7_drawn_136 : Cond.constant RX7 136 (-1000002) ∈ wsX7_drawn := List.mem_cons_of_mem _ (List.mem_append_left _ (List.mem_of_getElem? (l := wsX7_drawn_o) (i := 0) rfl))
theorem ow_X7_drawn_299 : Cond.constant RX7 299 (999999) ∈ wsX7_drawn := List.mem_cons_of_mem _ (List.mem_append_left _ (List.mem_of_getElem? (l := wsX7_drawn_o) (i := 1) rfl))
theorem ow_X7_drawn_59 : Cond.constant RX7 59 (-1000001) ∈ wsX7_drawn := List.mem_cons_of_mem _ (List.mem_append_left _ (List.mem_of_getElem? (l := wsX7_drawn_o) (i := 2) rfl))
theorem ow_X7_drawn_25 : Cond.fieldLink RX7 25 "WrongWord" "gate" "LWrongWord$Gate;" ∈ wsX7_drawn := List.mem_cons_of_mem _ (List.mem_append_left _ (List.mem_of_getElem? (l := wsX7_drawn_o) (i := 5) rfl))
theorem ow_X7_drawn_130 : Cond.fieldLink RX7 130 "WrongWord$Gate" "words" "I" ∈ wsX7_drawn := List.mem_cons_of_mem _ (List.mem_append_left _ (List.mem_of_getElem? (l := wsX7_drawn_o) (i := 6) rfl))
theorem hS_X7_image : yX7_image.cls ≠ "java/lang/invoke/MethodHandle" ∧ yX7_image.cls ≠ "java/lang/invoke/VarHandle" ∧ (parseMethodDescriptor yX7_image.desc).map (fun d => d.parameters.length) = some 1 := ⟨nm_X7.1, nm_X7.2, pd_8⟩
theorem hV_X7_image : yX7_image.cls = RX7 ∧ yX7_image.cls ≠ "java/lang/invoke/MethodHandle" ∧ yX7_image.cls ≠ "java/lang/invoke/VarHandle" ∧ (parseMethodDescriptor yX7_image.desc).map (fun d => d.parameters.length) = some 1 := ⟨rfl, hS_X7_image⟩
theorem fi_X7_image_X7 : ∀ w ∈ wsX70, w ∈ wsX7_image := fun _ h => List.mem_cons_of_mem _ (List.mem_append_right _ (List.mem_append_right _ (List.mem_append_right _ (List.mem_append_left _ h))))
theorem fi_X7_image_X2 : ∀ w ∈ wsX20, w ∈ wsX7_image := fun _ h => List.mem_cons_of_mem _ (List.mem_append_right _ (List.mem_append_right _ (List.mem_append_right _ (List.mem_append_right _ (List.mem_append_left _ h)))))
theorem fi_X7_image_X4 : ∀ w ∈ wsX40, w ∈ wsX7_image := fun _ h => List.mem_cons_of_mem _ (List.mem_append_right _ (List.mem_append_right _ (List.mem_append_right _ (List.mem_append_right _ (List.mem_append_right _ (List.mem_append_left _ h))))))
theorem ow_X7_image_59 : Cond.constant RX7 59 (-1000001) ∈ wsX7_image := List.mem_cons_of_mem _ (List.mem_append_left _ (List.mem_of_getElem? (l := wsX7_image_o) (i := 0) rfl))
theorem ow_X7_image_136 : Cond.constant RX7 136 (-1000002) ∈ wsX7_image := List.mem_cons_of_mem _ (List.mem_append_left _ (List.mem_of_getElem? (l := wsX7_image_o) (i := 1) rfl))
theorem ow_X7_image_36 : Cond.fieldLink RX7 36 "WrongWord" "images" "[LWrongWord$Gate;" ∈ wsX7_image := List.mem_cons_of_mem _ (List.mem_append_left _ (List.mem_of_getElem? (l := wsX7_image_o) (i := 2) rfl))
theorem ow_X7_image_25 : Cond.fieldLink RX7 25 "WrongWord" "gate" "LWrongWord$Gate;" ∈ wsX7_image := List.mem_cons_of_mem _ (List.mem_append_left _ (List.mem_of_getElem? (l := wsX7_image_o) (i := 3) rfl))
theorem ow_X7_image_130 : Cond.fieldLink RX7 130 "WrongWord$Gate" "words" "I" ∈ wsX7_image := List.mem_cons_of_mem _ (List.mem_append_left _ (List.mem_of_getElem? (l := wsX7_image_o) (i := 4) rfl))
theorem hS_X7_restore : yX7_restore.cls ≠ "java/lang/invoke/MethodHandle" ∧ yX7_restore.cls ≠ "java/lang/invoke/VarHandle" ∧ (parseMethodDescriptor yX7_restore.desc).map (fun d => d.parameters.length) = some 1 := ⟨nm_X7.1, nm_X7.2, pd_8⟩
theorem hV_X7_restore : yX7_restore.cls = RX7 ∧ yX7_restore.cls ≠ "java/lang/invoke/MethodHandle" ∧ yX7_restore.cls ≠ "java/lang/invoke/VarHandle" ∧ (parseMethodDescriptor yX7_restore.desc).map (fun d => d.parameters.length) = some 1 := ⟨rfl, hS_X7_restore⟩
theorem fi_X7_restore_X7 : ∀ w ∈ wsX70, w ∈ wsX7_restore := fun _ h => List.mem_cons_of_mem _ (List.mem_append_right _ (List.mem_append_right _ (List.mem_append_right _ (List.mem_append_left _ h))))
theorem fi_X7_restore_X2 : ∀ w ∈ wsX20, w ∈ wsX7_restore := fun _ h => List.mem_cons_of_mem _ (List.mem_append_right _ (List.mem_append_right _ (List.mem_append_right _ (List.mem_append_right _ (List.mem_append_left _ h)))))
theorem fi_X7_restore_X4 : ∀ w ∈ wsX40, w ∈ wsX7_restore := fun _ h => List.mem_cons_of_mem _ (List.mem_append_right _ (List.mem_append_right _ (List.mem_append_right _ (List.mem_append_right _ (List.mem_append_right _ (List.mem_append_left _ h))))))
theorem fi_X7_restore_X0 : ∀ w ∈ wsX00, w ∈ wsX7_restore := fun _ h => List.mem_cons_of_mem _ (List.mem_append_right _ (List.mem_append_right _ (List.mem_append_right _ (List.mem_append_right _ (List.mem_append_right _ (List.mem_append_right _ (List.mem_append_left _ h)))))))
theorem ow_X7_restore_59 : Cond.constant RX7 59 (-1000001) ∈ wsX7_restore := List.mem_cons_of_mem _ (List.mem_append_left _ (List.mem_of_getElem? (l := wsX7_restore_o) (i := 0) rfl))
theorem ow_X7_restore_36 : Cond.fieldLink RX7 36 "WrongWord" "images" "[LWrongWord$Gate;" ∈ wsX7_restore := List.mem_cons_of_mem _ (List.mem_append_left _ (List.mem_of_getElem? (l := wsX7_restore_o) (i := 1) rfl))
theorem ow_X7_restore_130 : Cond.fieldLink RX7 130 "WrongWord$Gate" "words" "I" ∈ wsX7_restore := List.mem_cons_of_mem _ (List.mem_append_left _ (List.mem_of_getElem? (l := wsX7_restore_o) (i := 2) rfl))
theorem ow_X7_restore_136 : Cond.constant RX7 136 (-1000002) ∈ wsX7_restore := List.mem_cons_of_mem _ (List.mem_append_left _ (List.mem_of_getElem? (l := wsX7_restore_o) (i := 3) rfl))
theorem ow_X7_restore_25 : Cond.fieldLink RX7 25 "WrongWord" "gate" "LWrongWord$Gate;" ∈ wsX7_restore := List.mem_cons_of_mem _ (List.mem_append_left _ (List.mem_of_getElem? (l := wsX7_restore_o) (i := 4) rfl))
theorem ow_X7_restore_32 : Cond.fieldLink RX7 32 "WrongWord" "acts" "LWrongWord$Acts;" ∈ wsX7_restore := List.mem_cons_of_mem _ (List.mem_append_left _ (List.mem_of_getElem? (l := wsX7_restore_o) (i := 5) rfl))
theorem hS_X7_kind : yX7_kind.cls ≠ "java/lang/invoke/MethodHandle" ∧ yX7_kind.cls ≠ "java/lang/invoke/VarHandle" ∧ (parseMethodDescriptor yX7_kind.desc).map (fun d => d.parameters.length) = some 1 := ⟨nm_X7.1, nm_X7.2, pd_8⟩
theorem hV_X7_kind : yX7_kind.cls = RX7 ∧ yX7_kind.cls ≠ "java/lang/invoke/MethodHandle" ∧ yX7_kind.cls ≠ "java/lang/invoke/VarHandle" ∧ (parseMethodDescriptor yX7_kind.desc).map (fun d => d.parameters.length) = some 1 := ⟨rfl, hS_X7_kind⟩
theorem fi_X7_kind_X7 : ∀ w ∈ wsX70, w ∈ wsX7_kind := fun _ h => List.mem_cons_of_mem _ (List.mem_append_right _ (List.mem_append_right _ (List.mem_append_left _ h)))
theorem fi_X7_kind_X2 : ∀ w ∈ wsX20, w ∈ wsX7_kind := fun _ h => List.mem_cons_of_mem _ (List.mem_append_right _ (List.mem_append_right _ (List.mem_append_right _ (List.mem_append_left _ h))))
theorem ow_X7_kind_25 : Cond.fieldLink RX7 25 "WrongWord" "gate" "LWrongWord$Gate;" ∈ wsX7_kind := List.mem_cons_of_mem _ (List.mem_append_left _ (List.mem_of_getElem? (l := wsX7_kind_o) (i := 0) rfl))
theorem ow_X7_kind_278 : Cond.fieldLink RX7 278 "WrongWord$Gate" "kinds" "[I" ∈ wsX7_kind := List.mem_cons_of_mem _ (List.mem_append_left _ (List.mem_of_getElem? (l := wsX7_kind_o) (i := 1) rfl))
theorem ow_X7_kind_59 : Cond.constant RX7 59 (-1000001) ∈ wsX7_kind := List.mem_cons_of_mem _ (List.mem_append_left _ (List.mem_of_getElem? (l := wsX7_kind_o) (i := 2) rfl))
theorem ow_X7_kind_327 : Cond.fieldLink RX7 327 "WrongWord$Gate" "guards" "I" ∈ wsX7_kind := List.mem_cons_of_mem _ (List.mem_append_left _ (List.mem_of_getElem? (l := wsX7_kind_o) (i := 3) rfl))
theorem hS_X7_as : yX7_as.cls ≠ "java/lang/invoke/MethodHandle" ∧ yX7_as.cls ≠ "java/lang/invoke/VarHandle" ∧ (parseMethodDescriptor yX7_as.desc).map (fun d => d.parameters.length) = some 2 := ⟨nm_X7.1, nm_X7.2, pd_10⟩
theorem hV_X7_as : yX7_as.cls = RX7 ∧ yX7_as.cls ≠ "java/lang/invoke/MethodHandle" ∧ yX7_as.cls ≠ "java/lang/invoke/VarHandle" ∧ (parseMethodDescriptor yX7_as.desc).map (fun d => d.parameters.length) = some 2 := ⟨rfl, hS_X7_as⟩
theorem fi_X7_as_X7 : ∀ w ∈ wsX70, w ∈ wsX7_as := fun _ h => List.mem_cons_of_mem _ (List.mem_append_right _ (List.mem_append_right _ (List.mem_append_right _ (List.mem_append_right _ (List.mem_append_right _ (List.mem_append_left _ h))))))
theorem fi_X7_as_X2 : ∀ w ∈ wsX20, w ∈ wsX7_as := fun _ h => List.mem_cons_of_mem _ (List.mem_append_right _ (List.mem_append_right _ (List.mem_append_right _ (List.mem_append_right _ (List.mem_append_right _ (List.mem_append_right _ (List.mem_append_left _ h)))))))
theorem ow_X7_as_59 : Cond.constant RX7 59 (-1000001) ∈ wsX7_as := List.mem_cons_of_mem _ (List.mem_append_left _ (List.mem_of_getElem? (l := wsX7_as_o) (i := 0) rfl))
theorem ow_X7_as_25 : Cond.fieldLink RX7 25 "WrongWord" "gate" "LWrongWord$Gate;" ∈ wsX7_as := List.mem_cons_of_mem _ (List.mem_append_left _ (List.mem_of_getElem? (l := wsX7_as_o) (i := 1) rfl))
theorem ow_X7_as_278 : Cond.fieldLink RX7 278 "WrongWord$Gate" "kinds" "[I" ∈ wsX7_as := List.mem_cons_of_mem _ (List.mem_append_left _ (List.mem_of_getElem? (l := wsX7_as_o) (i := 2) rfl))
theorem ow_X7_as_327 : Cond.fieldLink RX7 327 "WrongWord$Gate" "guards" "I" ∈ wsX7_as := List.mem_cons_of_mem _ (List.mem_append_left _ (List.mem_of_getElem? (l := wsX7_as_o) (i := 3) rfl))
theorem ow_X7_as_333 : Cond.fieldLink RX7 333 "WrongWord" "latestFinding" "I" ∈ wsX7_as := List.mem_cons_of_mem _ (List.mem_append_left _ (List.mem_of_getElem? (l := wsX7_as_o) (i := 4) rfl))
theorem ow_X7_as_336 : Cond.constant RX7 336 (-1000010) ∈ wsX7_as := List.mem_cons_of_mem _ (List.mem_append_left _ (List.mem_of_getElem? (l := wsX7_as_o) (i := 5) rfl))
theorem hS_X7_ask : yX7_ask.cls ≠ "java/lang/invoke/MethodHandle" ∧ yX7_ask.cls ≠ "java/lang/invoke/VarHandle" ∧ (parseMethodDescriptor yX7_ask.desc).map (fun d => d.parameters.length) = some 2 := ⟨nm_X7.1, nm_X7.2, pd_10⟩
theorem hV_X7_ask : yX7_ask.cls = RX7 ∧ yX7_ask.cls ≠ "java/lang/invoke/MethodHandle" ∧ yX7_ask.cls ≠ "java/lang/invoke/VarHandle" ∧ (parseMethodDescriptor yX7_ask.desc).map (fun d => d.parameters.length) = some 2 := ⟨rfl, hS_X7_ask⟩
theorem fi_X7_ask_X7 : ∀ w ∈ wsX70, w ∈ wsX7_ask := fun _ h => List.mem_cons_of_mem _ (List.mem_append_right _ (List.mem_append_right _ (List.mem_append_right _ (List.mem_append_right _ (List.mem_append_left _ h)))))
theorem fi_X7_ask_X2 : ∀ w ∈ wsX20, w ∈ wsX7_ask := fun _ h => List.mem_cons_of_mem _ (List.mem_append_right _ (List.mem_append_right _ (List.mem_append_right _ (List.mem_append_right _ (List.mem_append_right _ (List.mem_append_left _ h))))))
theorem fi_X7_ask_X4 : ∀ w ∈ wsX40, w ∈ wsX7_ask := fun _ h => List.mem_cons_of_mem _ (List.mem_append_right _ (List.mem_append_right _ (List.mem_append_right _ (List.mem_append_right _ (List.mem_append_right _ (List.mem_append_right _ (List.mem_append_left _ h)))))))
theorem fi_X7_ask_X1 : ∀ w ∈ wsX10, w ∈ wsX7_ask := fun _ h => List.mem_cons_of_mem _ (List.mem_append_right _ (List.mem_append_right _ (List.mem_append_right _ (List.mem_append_right _ (List.mem_append_right _ (List.mem_append_right _ (List.mem_append_right _ (List.mem_append_left _ h))))))))
theorem ow_X7_ask_59 : Cond.constant RX7 59 (-1000001) ∈ wsX7_ask := List.mem_cons_of_mem _ (List.mem_append_left _ (List.mem_of_getElem? (l := wsX7_ask_o) (i := 0) rfl))
theorem ow_X7_ask_50 : Cond.fieldLink RX7 50 "WrongWord" "asks" "LWrongWord$Asks;" ∈ wsX7_ask := List.mem_cons_of_mem _ (List.mem_append_left _ (List.mem_of_getElem? (l := wsX7_ask_o) (i := 1) rfl))
theorem ow_X7_ask_25 : Cond.fieldLink RX7 25 "WrongWord" "gate" "LWrongWord$Gate;" ∈ wsX7_ask := List.mem_cons_of_mem _ (List.mem_append_left _ (List.mem_of_getElem? (l := wsX7_ask_o) (i := 2) rfl))
theorem ow_X7_ask_278 : Cond.fieldLink RX7 278 "WrongWord$Gate" "kinds" "[I" ∈ wsX7_ask := List.mem_cons_of_mem _ (List.mem_append_left _ (List.mem_of_getElem? (l := wsX7_ask_o) (i := 3) rfl))
theorem ow_X7_ask_209 : Cond.fieldLink RX7 209 "WrongWord$Gate" "fees" "[I" ∈ wsX7_ask := List.mem_cons_of_mem _ (List.mem_append_left _ (List.mem_of_getElem? (l := wsX7_ask_o) (i := 4) rfl))
theorem ow_X7_ask_137 : Cond.fieldLink RX7 137 "WrongWord$Gate" "now" "LWrongWord$Moment;" ∈ wsX7_ask := List.mem_cons_of_mem _ (List.mem_append_left _ (List.mem_of_getElem? (l := wsX7_ask_o) (i := 5) rfl))
theorem ow_X7_ask_212 : Cond.fieldLink RX7 212 "WrongWord$Moment" "took" "[I" ∈ wsX7_ask := List.mem_cons_of_mem _ (List.mem_append_left _ (List.mem_of_getElem? (l := wsX7_ask_o) (i := 6) rfl))
theorem ow_X7_ask_327 : Cond.fieldLink RX7 327 "WrongWord$Gate" "guards" "I" ∈ wsX7_ask := List.mem_cons_of_mem _ (List.mem_append_left _ (List.mem_of_getElem? (l := wsX7_ask_o) (i := 7) rfl))
theorem hS_X7_trace : yX7_trace.cls ≠ "java/lang/invoke/MethodHandle" ∧ yX7_trace.cls ≠ "java/lang/invoke/VarHandle" ∧ (parseMethodDescriptor yX7_trace.desc).map (fun d => d.parameters.length) = some 1 := ⟨nm_X7.1, nm_X7.2, pd_8⟩
theorem hV_X7_trace : yX7_trace.cls = RX7 ∧ yX7_trace.cls ≠ "java/lang/invoke/MethodHandle" ∧ yX7_trace.cls ≠ "java/lang/invoke/VarHandle" ∧ (parseMethodDescriptor yX7_trace.desc).map (fun d => d.parameters.length) = some 1 := ⟨rfl, hS_X7_trace⟩
theorem fi_X7_trace_X7 : ∀ w ∈ wsX70, w ∈ wsX7_trace := fun _ h => List.mem_cons_of_mem _ (List.mem_append_right _ (List.mem_append_left _ h))
theorem fi_X7_trace_X1 : ∀ w ∈ wsX10, w ∈ wsX7_trace := fun _ h => List.mem_cons_of_mem _ (List.mem_append_right _ (List.mem_append_right _ (List.mem_append_left _ h)))
theorem ow_X7_trace_50 : Cond.fieldLink RX7 50 "WrongWord" "asks" "LWrongWord$Asks;" ∈ wsX7_trace := List.mem_cons_of_mem _ (List.mem_append_left _ (List.mem_of_getElem? (l := wsX7_trace_o) (i := 0) rfl))
theorem ow_X7_trace_317 : Cond.fieldLink RX7 317 "WrongWord$Asks" "begun" "I" ∈ wsX7_trace := List.mem_cons_of_mem _ (List.mem_append_left _ (List.mem_of_getElem? (l := wsX7_trace_o) (i := 1) rfl))
theorem ow_X7_trace_175 : Cond.constant RX7 175 (-1000000) ∈ wsX7_trace := List.mem_cons_of_mem _ (List.mem_append_left _ (List.mem_of_getElem? (l := wsX7_trace_o) (i := 2) rfl))
theorem ow_X7_trace_320 : Cond.fieldLink RX7 320 "WrongWord$Asks" "bodies" "[I" ∈ wsX7_trace := List.mem_cons_of_mem _ (List.mem_append_left _ (List.mem_of_getElem? (l := wsX7_trace_o) (i := 3) rfl))
theorem hS_X7_rowsThere : yX7_rowsThere.cls ≠ "java/lang/invoke/MethodHandle" ∧ yX7_rowsThere.cls ≠ "java/lang/invoke/VarHandle" ∧ (parseMethodDescriptor yX7_rowsThere.desc).map (fun d => d.parameters.length) = some 0 := ⟨nm_X7.1, nm_X7.2, pd_5⟩
theorem hV_X7_rowsThere : yX7_rowsThere.cls = RX7 ∧ yX7_rowsThere.cls ≠ "java/lang/invoke/MethodHandle" ∧ yX7_rowsThere.cls ≠ "java/lang/invoke/VarHandle" ∧ (parseMethodDescriptor yX7_rowsThere.desc).map (fun d => d.parameters.length) = some 0 := ⟨rfl, hS_X7_rowsThere⟩
theorem fi_X7_rowsThere_X7 : ∀ w ∈ wsX70, w ∈ wsX7_rowsThere := fun _ h => List.mem_cons_of_mem _ (List.mem_append_right _ (List.mem_append_left _ h))
theorem fi_X7_rowsThere_X5 : ∀ w ∈ wsX50, w ∈ wsX7_rowsThere := fun _ h => List.mem_cons_of_mem _ (List.mem_append_right _ (List.mem_append_right _ (List.mem_append_left _ h)))
theorem ow_X7_rowsThere_11 : Cond.fieldLink RX7 11 "WrongWord" "rows" "[LWrongWord$Row;" ∈ wsX7_rowsThere := List.mem_cons_of_mem _ (List.mem_append_left _ (List.mem_of_getElem? (l := wsX7_rowsThere_o) (i := 0) rfl))
theorem ow_X7_rowsThere_78 : Cond.fieldLink RX7 78 "WrongWord$Row" "lane" "I" ∈ wsX7_rowsThere := List.mem_cons_of_mem _ (List.mem_append_left _ (List.mem_of_getElem? (l := wsX7_rowsThere_o) (i := 1) rfl))
theorem hS_X7_count : yX7_count.cls ≠ "java/lang/invoke/MethodHandle" ∧ yX7_count.cls ≠ "java/lang/invoke/VarHandle" ∧ (parseMethodDescriptor yX7_count.desc).map (fun d => d.parameters.length) = some 1 := ⟨nm_X7.1, nm_X7.2, pd_8⟩
theorem hV_X7_count : yX7_count.cls = RX7 ∧ yX7_count.cls ≠ "java/lang/invoke/MethodHandle" ∧ yX7_count.cls ≠ "java/lang/invoke/VarHandle" ∧ (parseMethodDescriptor yX7_count.desc).map (fun d => d.parameters.length) = some 1 := ⟨rfl, hS_X7_count⟩
theorem fi_X7_count_X7 : ∀ w ∈ wsX70, w ∈ wsX7_count := fun _ h => List.mem_cons_of_mem _ (List.mem_append_right _ (List.mem_append_right _ (List.mem_append_right _ (List.mem_append_left _ h))))
theorem fi_X7_count_X2 : ∀ w ∈ wsX20, w ∈ wsX7_count := fun _ h => List.mem_cons_of_mem _ (List.mem_append_right _ (List.mem_append_right _ (List.mem_append_right _ (List.mem_append_right _ (List.mem_append_left _ h)))))
theorem fi_X7_count_X4 : ∀ w ∈ wsX40, w ∈ wsX7_count := fun _ h => List.mem_cons_of_mem _ (List.mem_append_right _ (List.mem_append_right _ (List.mem_append_right _ (List.mem_append_right _ (List.mem_append_right _ (List.mem_append_left _ h))))))
theorem fi_X7_count_X0 : ∀ w ∈ wsX00, w ∈ wsX7_count := fun _ h => List.mem_cons_of_mem _ (List.mem_append_right _ (List.mem_append_right _ (List.mem_append_right _ (List.mem_append_right _ (List.mem_append_right _ (List.mem_append_right _ (List.mem_append_left _ h)))))))
theorem fi_X7_count_X6 : ∀ w ∈ wsX60, w ∈ wsX7_count := fun _ h => List.mem_cons_of_mem _ (List.mem_append_right _ (List.mem_append_right _ (List.mem_append_right _ (List.mem_append_right _ (List.mem_append_right _ (List.mem_append_right _ (List.mem_append_right _ (List.mem_append_left _ h))))))))
theorem fi_X7_count_X5 : ∀ w ∈ wsX50, w ∈ wsX7_count := fun _ h => List.mem_cons_of_mem _ (List.mem_append_right _ (List.mem_append_right _ (List.mem_append_right _ (List.mem_append_right _ (List.mem_append_right _ (List.mem_append_right _ (List.mem_append_right _ (List.mem_append_right _ (List.mem_append_left _ h)))))))))
theorem ow_X7_count_25 : Cond.fieldLink RX7 25 "WrongWord" "gate" "LWrongWord$Gate;" ∈ wsX7_count := List.mem_cons_of_mem _ (List.mem_append_left _ (List.mem_of_getElem? (l := wsX7_count_o) (i := 0) rfl))
theorem ow_X7_count_130 : Cond.fieldLink RX7 130 "WrongWord$Gate" "words" "I" ∈ wsX7_count := List.mem_cons_of_mem _ (List.mem_append_left _ (List.mem_of_getElem? (l := wsX7_count_o) (i := 1) rfl))
theorem ow_X7_count_327 : Cond.fieldLink RX7 327 "WrongWord$Gate" "guards" "I" ∈ wsX7_count := List.mem_cons_of_mem _ (List.mem_append_left _ (List.mem_of_getElem? (l := wsX7_count_o) (i := 2) rfl))
theorem ow_X7_count_137 : Cond.fieldLink RX7 137 "WrongWord$Gate" "now" "LWrongWord$Moment;" ∈ wsX7_count := List.mem_cons_of_mem _ (List.mem_append_left _ (List.mem_of_getElem? (l := wsX7_count_o) (i := 3) rfl))
theorem ow_X7_count_141 : Cond.fieldLink RX7 141 "WrongWord$Moment" "night" "I" ∈ wsX7_count := List.mem_cons_of_mem _ (List.mem_append_left _ (List.mem_of_getElem? (l := wsX7_count_o) (i := 4) rfl))
theorem ow_X7_count_162 : Cond.fieldLink RX7 162 "WrongWord$Moment" "tries" "I" ∈ wsX7_count := List.mem_cons_of_mem _ (List.mem_append_left _ (List.mem_of_getElem? (l := wsX7_count_o) (i := 5) rfl))
theorem ow_X7_count_190 : Cond.fieldLink RX7 190 "WrongWord$Moment" "there" "I" ∈ wsX7_count := List.mem_cons_of_mem _ (List.mem_append_left _ (List.mem_of_getElem? (l := wsX7_count_o) (i := 6) rfl))
theorem ow_X7_count_32 : Cond.fieldLink RX7 32 "WrongWord" "acts" "LWrongWord$Acts;" ∈ wsX7_count := List.mem_cons_of_mem _ (List.mem_append_left _ (List.mem_of_getElem? (l := wsX7_count_o) (i := 7) rfl))
theorem ow_X7_count_197 : Cond.fieldLink RX7 197 "WrongWord$Acts" "kept" "I" ∈ wsX7_count := List.mem_cons_of_mem _ (List.mem_append_left _ (List.mem_of_getElem? (l := wsX7_count_o) (i := 8) rfl))
theorem ow_X7_count_18 : Cond.fieldLink RX7 18 "WrongWord" "tape" "LWrongWord$Tape;" ∈ wsX7_count := List.mem_cons_of_mem _ (List.mem_append_left _ (List.mem_of_getElem? (l := wsX7_count_o) (i := 9) rfl))
theorem ow_X7_count_102 : Cond.fieldLink RX7 102 "WrongWord$Tape" "length" "I" ∈ wsX7_count := List.mem_cons_of_mem _ (List.mem_append_left _ (List.mem_of_getElem? (l := wsX7_count_o) (i := 10) rfl))
theorem ow_X7_count_184 : Cond.fieldLink RX7 184 "WrongWord$Moment" "start" "I" ∈ wsX7_count := List.mem_cons_of_mem _ (List.mem_append_left _ (List.mem_of_getElem? (l := wsX7_count_o) (i := 11) rfl))
theorem ow_X7_count_59 : Cond.constant RX7 59 (-1000001) ∈ wsX7_count := List.mem_cons_of_mem _ (List.mem_append_left _ (List.mem_of_getElem? (l := wsX7_count_o) (i := 12) rfl))
theorem ow_X7_count_11 : Cond.fieldLink RX7 11 "WrongWord" "rows" "[LWrongWord$Row;" ∈ wsX7_count := List.mem_cons_of_mem _ (List.mem_append_left _ (List.mem_of_getElem? (l := wsX7_count_o) (i := 13) rfl))
theorem ow_X7_count_78 : Cond.fieldLink RX7 78 "WrongWord$Row" "lane" "I" ∈ wsX7_count := List.mem_cons_of_mem _ (List.mem_append_left _ (List.mem_of_getElem? (l := wsX7_count_o) (i := 14) rfl))
theorem hS_X7_status : yX7_status.cls ≠ "java/lang/invoke/MethodHandle" ∧ yX7_status.cls ≠ "java/lang/invoke/VarHandle" ∧ (parseMethodDescriptor yX7_status.desc).map (fun d => d.parameters.length) = some 0 := ⟨nm_X7.1, nm_X7.2, pd_5⟩
theorem hV_X7_status : yX7_status.cls = RX7 ∧ yX7_status.cls ≠ "java/lang/invoke/MethodHandle" ∧ yX7_status.cls ≠ "java/lang/invoke/VarHandle" ∧ (parseMethodDescriptor yX7_status.desc).map (fun d => d.parameters.length) = some 0 := ⟨rfl, hS_X7_status⟩
theorem fi_X7_status_X7 : ∀ w ∈ wsX70, w ∈ wsX7_status := fun _ h => List.mem_cons_of_mem _ (List.mem_append_right _ (List.mem_append_left _ h))
theorem ow_X7_status_333 : Cond.fieldLink RX7 333 "WrongWord" "latestFinding" "I" ∈ wsX7_status := List.mem_cons_of_mem _ (List.mem_append_left _ (List.mem_of_getElem? (l := wsX7_status_o) (i := 0) rfl))
theorem hS_X8_init : yX8_init.cls ≠ "java/lang/invoke/MethodHandle" ∧ yX8_init.cls ≠ "java/lang/invoke/VarHandle" ∧ (parseMethodDescriptor yX8_init.desc).map (fun d => d.parameters.length) = some 0 := ⟨nm_X8.1, nm_X8.2, pd_0⟩
theorem hV_X8_init : yX8_init.cls = RX8 ∧ yX8_init.cls ≠ "java/lang/invoke/MethodHandle" ∧ yX8_init.cls ≠ "java/lang/invoke/VarHandle" ∧ (parseMethodDescriptor yX8_init.desc).map (fun d => d.parameters.length) = some 0 := ⟨rfl, hS_X8_init⟩
theorem fi_X8_init_X8 : ∀ w ∈ wsX80, w ∈ wsX8_init := fun _ h => List.mem_cons_of_mem _ (List.mem_append_right _ (List.mem_append_left _ h))
theorem ow_X8_init_7 : Cond.fieldLink RX8 7 "WrongWordModel" "lane" "[I" ∈ wsX8_init := List.mem_cons_of_mem _ (List.mem_append_left _ (List.mem_of_getElem? (l := wsX8_init_o) (i := 4) rfl))
theorem ow_X8_init_13 : Cond.fieldLink RX8 13 "WrongWordModel" "many" "[I" ∈ wsX8_init := List.mem_cons_of_mem _ (List.mem_append_left _ (List.mem_of_getElem? (l := wsX8_init_o) (i := 5) rfl))
theorem ow_X8_init_16 : Cond.fieldLink RX8 16 "WrongWordModel" "items" "[I" ∈ wsX8_init := List.mem_cons_of_mem _ (List.mem_append_left _ (List.mem_of_getElem? (l := wsX8_init_o) (i := 6) rfl))
theorem ow_X8_init_19 : Cond.fieldLink RX8 19 "WrongWordModel" "spare" "[I" ∈ wsX8_init := List.mem_cons_of_mem _ (List.mem_append_left _ (List.mem_of_getElem? (l := wsX8_init_o) (i := 7) rfl))
theorem ow_X8_init_22 : Cond.fieldLink RX8 22 "WrongWordModel" "tape" "[I" ∈ wsX8_init := List.mem_cons_of_mem _ (List.mem_append_left _ (List.mem_of_getElem? (l := wsX8_init_o) (i := 8) rfl))
theorem ow_X8_init_25 : Cond.fieldLink RX8 25 "WrongWordModel" "now" "[I" ∈ wsX8_init := List.mem_cons_of_mem _ (List.mem_append_left _ (List.mem_of_getElem? (l := wsX8_init_o) (i := 9) rfl))
theorem ow_X8_init_28 : Cond.fieldLink RX8 28 "WrongWordModel" "draft" "[I" ∈ wsX8_init := List.mem_cons_of_mem _ (List.mem_append_left _ (List.mem_of_getElem? (l := wsX8_init_o) (i := 10) rfl))
theorem ow_X8_init_31 : Cond.fieldLink RX8 31 "WrongWordModel" "tried" "[I" ∈ wsX8_init := List.mem_cons_of_mem _ (List.mem_append_left _ (List.mem_of_getElem? (l := wsX8_init_o) (i := 11) rfl))
theorem ow_X8_init_34 : Cond.fieldLink RX8 34 "WrongWordModel" "past" "[I" ∈ wsX8_init := List.mem_cons_of_mem _ (List.mem_append_left _ (List.mem_of_getElem? (l := wsX8_init_o) (i := 12) rfl))
theorem ow_X8_init_37 : Cond.fieldLink RX8 37 "WrongWordModel" "images" "[I" ∈ wsX8_init := List.mem_cons_of_mem _ (List.mem_append_left _ (List.mem_of_getElem? (l := wsX8_init_o) (i := 13) rfl))
theorem ow_X8_init_40 : Cond.fieldLink RX8 40 "WrongWordModel" "kept" "[Z" ∈ wsX8_init := List.mem_cons_of_mem _ (List.mem_append_left _ (List.mem_of_getElem? (l := wsX8_init_o) (i := 15) rfl))
theorem ow_X8_init_44 : Cond.fieldLink RX8 44 "WrongWordModel" "men" "[I" ∈ wsX8_init := List.mem_cons_of_mem _ (List.mem_append_left _ (List.mem_of_getElem? (l := wsX8_init_o) (i := 16) rfl))
theorem ow_X8_init_47 : Cond.fieldLink RX8 47 "WrongWordModel" "trace" "[I" ∈ wsX8_init := List.mem_cons_of_mem _ (List.mem_append_left _ (List.mem_of_getElem? (l := wsX8_init_o) (i := 17) rfl))
theorem ow_X8_init_50 : Cond.constant RX8 50 (-1000000) ∈ wsX8_init := List.mem_cons_of_mem _ (List.mem_append_left _ (List.mem_of_getElem? (l := wsX8_init_o) (i := 18) rfl))
theorem hS_X8_in : yX8_in.cls ≠ "java/lang/invoke/MethodHandle" ∧ yX8_in.cls ≠ "java/lang/invoke/VarHandle" ∧ (parseMethodDescriptor yX8_in.desc).map (fun d => d.parameters.length) = some 3 := ⟨nm_X8.1, nm_X8.2, pd_14⟩
theorem hV_X8_in : yX8_in.cls = RX8 ∧ yX8_in.cls ≠ "java/lang/invoke/MethodHandle" ∧ yX8_in.cls ≠ "java/lang/invoke/VarHandle" ∧ (parseMethodDescriptor yX8_in.desc).map (fun d => d.parameters.length) = some 3 := ⟨rfl, hS_X8_in⟩
theorem hS_X8_has : yX8_has.cls ≠ "java/lang/invoke/MethodHandle" ∧ yX8_has.cls ≠ "java/lang/invoke/VarHandle" ∧ (parseMethodDescriptor yX8_has.desc).map (fun d => d.parameters.length) = some 2 := ⟨nm_X8.1, nm_X8.2, pd_3⟩
theorem hV_X8_has : yX8_has.cls = RX8 ∧ yX8_has.cls ≠ "java/lang/invoke/MethodHandle" ∧ yX8_has.cls ≠ "java/lang/invoke/VarHandle" ∧ (parseMethodDescriptor yX8_has.desc).map (fun d => d.parameters.length) = some 2 := ⟨rfl, hS_X8_has⟩
theorem hS_X8_ones : yX8_ones.cls ≠ "java/lang/invoke/MethodHandle" ∧ yX8_ones.cls ≠ "java/lang/invoke/VarHandle" ∧ (parseMethodDescriptor yX8_ones.desc).map (fun d => d.parameters.length) = some 1 := ⟨nm_X8.1, nm_X8.2, pd_8⟩
theorem hV_X8_ones : yX8_ones.cls = RX8 ∧ yX8_ones.cls ≠ "java/lang/invoke/MethodHandle" ∧ yX8_ones.cls ≠ "java/lang/invoke/VarHandle" ∧ (parseMethodDescriptor yX8_ones.desc).map (fun d => d.parameters.length) = some 1 := ⟨rfl, hS_X8_ones⟩
theorem hS_X8_found : yX8_found.cls ≠ "java/lang/invoke/MethodHandle" ∧ yX8_found.cls ≠ "java/lang/invoke/VarHandle" ∧ (parseMethodDescriptor yX8_found.desc).map (fun d => d.parameters.length) = some 1 := ⟨nm_X8.1, nm_X8.2, pd_8⟩
theorem hV_X8_found : yX8_found.cls = RX8 ∧ yX8_found.cls ≠ "java/lang/invoke/MethodHandle" ∧ yX8_found.cls ≠ "java/lang/invoke/VarHandle" ∧ (parseMethodDescriptor yX8_found.desc).map (fun d => d.parameters.length) = some 1 := ⟨rfl, hS_X8_found⟩
theorem fi_X8_found_X8 : ∀ w ∈ wsX80, w ∈ wsX8_found := fun _ h => List.mem_cons_of_mem _ (List.mem_append_right _ (List.mem_append_left _ h))
theorem ow_X8_found_51 : Cond.fieldLink RX8 51 "WrongWordModel" "status" "I" ∈ wsX8_found := List.mem_cons_of_mem _ (List.mem_append_left _ (List.mem_of_getElem? (l := wsX8_found_o) (i := 0) rfl))
theorem ow_X8_found_55 : Cond.constant RX8 55 (-1000010) ∈ wsX8_found := List.mem_cons_of_mem _ (List.mem_append_left _ (List.mem_of_getElem? (l := wsX8_found_o) (i := 1) rfl))
theorem hS_X8_well : yX8_well.cls ≠ "java/lang/invoke/MethodHandle" ∧ yX8_well.cls ≠ "java/lang/invoke/VarHandle" ∧ (parseMethodDescriptor yX8_well.desc).map (fun d => d.parameters.length) = some 1 := ⟨nm_X8.1, nm_X8.2, pd_8⟩
theorem hV_X8_well : yX8_well.cls = RX8 ∧ yX8_well.cls ≠ "java/lang/invoke/MethodHandle" ∧ yX8_well.cls ≠ "java/lang/invoke/VarHandle" ∧ (parseMethodDescriptor yX8_well.desc).map (fun d => d.parameters.length) = some 1 := ⟨rfl, hS_X8_well⟩
theorem fi_X8_well_X8 : ∀ w ∈ wsX80, w ∈ wsX8_well := fun _ h => List.mem_cons_of_mem _ (List.mem_append_right _ (List.mem_append_left _ h))
theorem ow_X8_well_51 : Cond.fieldLink RX8 51 "WrongWordModel" "status" "I" ∈ wsX8_well := List.mem_cons_of_mem _ (List.mem_append_left _ (List.mem_of_getElem? (l := wsX8_well_o) (i := 0) rfl))
theorem hS_X8_copies : yX8_copies.cls ≠ "java/lang/invoke/MethodHandle" ∧ yX8_copies.cls ≠ "java/lang/invoke/VarHandle" ∧ (parseMethodDescriptor yX8_copies.desc).map (fun d => d.parameters.length) = some 4 := ⟨nm_X8.1, nm_X8.2, pd_30⟩
theorem hV_X8_copies : yX8_copies.cls = RX8 ∧ yX8_copies.cls ≠ "java/lang/invoke/MethodHandle" ∧ yX8_copies.cls ≠ "java/lang/invoke/VarHandle" ∧ (parseMethodDescriptor yX8_copies.desc).map (fun d => d.parameters.length) = some 4 := ⟨rfl, hS_X8_copies⟩
theorem hS_X8_isRow : yX8_isRow.cls ≠ "java/lang/invoke/MethodHandle" ∧ yX8_isRow.cls ≠ "java/lang/invoke/VarHandle" ∧ (parseMethodDescriptor yX8_isRow.desc).map (fun d => d.parameters.length) = some 1 := ⟨nm_X8.1, nm_X8.2, pd_12⟩
theorem hV_X8_isRow : yX8_isRow.cls = RX8 ∧ yX8_isRow.cls ≠ "java/lang/invoke/MethodHandle" ∧ yX8_isRow.cls ≠ "java/lang/invoke/VarHandle" ∧ (parseMethodDescriptor yX8_isRow.desc).map (fun d => d.parameters.length) = some 1 := ⟨rfl, hS_X8_isRow⟩
theorem hS_X8_isMissing : yX8_isMissing.cls ≠ "java/lang/invoke/MethodHandle" ∧ yX8_isMissing.cls ≠ "java/lang/invoke/VarHandle" ∧ (parseMethodDescriptor yX8_isMissing.desc).map (fun d => d.parameters.length) = some 1 := ⟨nm_X8.1, nm_X8.2, pd_12⟩
theorem hV_X8_isMissing : yX8_isMissing.cls = RX8 ∧ yX8_isMissing.cls ≠ "java/lang/invoke/MethodHandle" ∧ yX8_isMissing.cls ≠ "java/lang/invoke/VarHandle" ∧ (parseMethodDescriptor yX8_isMissing.desc).map (fun d => d.parameters.length) = some 1 := ⟨rfl, hS_X8_isMissing⟩
theorem fi_X8_isMissing_X8 : ∀ w ∈ wsX80, w ∈ wsX8_isMissing := fun _ h => List.mem_cons_of_mem _ (List.mem_append_right _ (List.mem_append_left _ h))
theorem ow_X8_isMissing_7 : Cond.fieldLink RX8 7 "WrongWordModel" "lane" "[I" ∈ wsX8_isMissing := List.mem_cons_of_mem _ (List.mem_append_left _ (List.mem_of_getElem? (l := wsX8_isMissing_o) (i := 0) rfl))
theorem ow_X8_isMissing_50 : Cond.constant RX8 50 (-1000000) ∈ wsX8_isMissing := List.mem_cons_of_mem _ (List.mem_append_left _ (List.mem_of_getElem? (l := wsX8_isMissing_o) (i := 1) rfl))
theorem hS_X8_cut : yX8_cut.cls ≠ "java/lang/invoke/MethodHandle" ∧ yX8_cut.cls ≠ "java/lang/invoke/VarHandle" ∧ (parseMethodDescriptor yX8_cut.desc).map (fun d => d.parameters.length) = some 2 := ⟨nm_X8.1, nm_X8.2, pd_10⟩
theorem hV_X8_cut : yX8_cut.cls = RX8 ∧ yX8_cut.cls ≠ "java/lang/invoke/MethodHandle" ∧ yX8_cut.cls ≠ "java/lang/invoke/VarHandle" ∧ (parseMethodDescriptor yX8_cut.desc).map (fun d => d.parameters.length) = some 2 := ⟨rfl, hS_X8_cut⟩
theorem hS_X8_row : yX8_row.cls ≠ "java/lang/invoke/MethodHandle" ∧ yX8_row.cls ≠ "java/lang/invoke/VarHandle" ∧ (parseMethodDescriptor yX8_row.desc).map (fun d => d.parameters.length) = some 3 := ⟨nm_X8.1, nm_X8.2, pd_23⟩
theorem hV_X8_row : yX8_row.cls = RX8 ∧ yX8_row.cls ≠ "java/lang/invoke/MethodHandle" ∧ yX8_row.cls ≠ "java/lang/invoke/VarHandle" ∧ (parseMethodDescriptor yX8_row.desc).map (fun d => d.parameters.length) = some 3 := ⟨rfl, hS_X8_row⟩
theorem fi_X8_row_X8 : ∀ w ∈ wsX80, w ∈ wsX8_row := fun _ h => List.mem_cons_of_mem _ (List.mem_append_right _ (List.mem_append_right _ (List.mem_append_right _ (List.mem_append_right _ (List.mem_append_right _ (List.mem_append_left _ h))))))
theorem ow_X8_row_64 : Cond.constant RX8 64 (-1000001) ∈ wsX8_row := List.mem_cons_of_mem _ (List.mem_append_left _ (List.mem_of_getElem? (l := wsX8_row_o) (i := 0) rfl))
theorem ow_X8_row_7 : Cond.fieldLink RX8 7 "WrongWordModel" "lane" "[I" ∈ wsX8_row := List.mem_cons_of_mem _ (List.mem_append_left _ (List.mem_of_getElem? (l := wsX8_row_o) (i := 1) rfl))
theorem ow_X8_row_13 : Cond.fieldLink RX8 13 "WrongWordModel" "many" "[I" ∈ wsX8_row := List.mem_cons_of_mem _ (List.mem_append_left _ (List.mem_of_getElem? (l := wsX8_row_o) (i := 2) rfl))
theorem ow_X8_row_16 : Cond.fieldLink RX8 16 "WrongWordModel" "items" "[I" ∈ wsX8_row := List.mem_cons_of_mem _ (List.mem_append_left _ (List.mem_of_getElem? (l := wsX8_row_o) (i := 3) rfl))
theorem ow_X8_row_51 : Cond.fieldLink RX8 51 "WrongWordModel" "status" "I" ∈ wsX8_row := List.mem_cons_of_mem _ (List.mem_append_left _ (List.mem_of_getElem? (l := wsX8_row_o) (i := 4) rfl))
theorem ow_X8_row_55 : Cond.constant RX8 55 (-1000010) ∈ wsX8_row := List.mem_cons_of_mem _ (List.mem_append_left _ (List.mem_of_getElem? (l := wsX8_row_o) (i := 5) rfl))
theorem hS_X8_set : yX8_set.cls ≠ "java/lang/invoke/MethodHandle" ∧ yX8_set.cls ≠ "java/lang/invoke/VarHandle" ∧ (parseMethodDescriptor yX8_set.desc).map (fun d => d.parameters.length) = some 3 := ⟨nm_X8.1, nm_X8.2, pd_23⟩
theorem hV_X8_set : yX8_set.cls = RX8 ∧ yX8_set.cls ≠ "java/lang/invoke/MethodHandle" ∧ yX8_set.cls ≠ "java/lang/invoke/VarHandle" ∧ (parseMethodDescriptor yX8_set.desc).map (fun d => d.parameters.length) = some 3 := ⟨rfl, hS_X8_set⟩
theorem fi_X8_set_X8 : ∀ w ∈ wsX80, w ∈ wsX8_set := fun _ h => List.mem_cons_of_mem _ (List.mem_append_right _ (List.mem_append_right _ (List.mem_append_right _ (List.mem_append_right _ (List.mem_append_right _ (List.mem_append_right _ (List.mem_append_right _ (List.mem_append_left _ h))))))))
theorem ow_X8_set_64 : Cond.constant RX8 64 (-1000001) ∈ wsX8_set := List.mem_cons_of_mem _ (List.mem_append_left _ (List.mem_of_getElem? (l := wsX8_set_o) (i := 0) rfl))
theorem ow_X8_set_13 : Cond.fieldLink RX8 13 "WrongWordModel" "many" "[I" ∈ wsX8_set := List.mem_cons_of_mem _ (List.mem_append_left _ (List.mem_of_getElem? (l := wsX8_set_o) (i := 1) rfl))
theorem ow_X8_set_16 : Cond.fieldLink RX8 16 "WrongWordModel" "items" "[I" ∈ wsX8_set := List.mem_cons_of_mem _ (List.mem_append_left _ (List.mem_of_getElem? (l := wsX8_set_o) (i := 2) rfl))
theorem ow_X8_set_7 : Cond.fieldLink RX8 7 "WrongWordModel" "lane" "[I" ∈ wsX8_set := List.mem_cons_of_mem _ (List.mem_append_left _ (List.mem_of_getElem? (l := wsX8_set_o) (i := 3) rfl))
theorem ow_X8_set_50 : Cond.constant RX8 50 (-1000000) ∈ wsX8_set := List.mem_cons_of_mem _ (List.mem_append_left _ (List.mem_of_getElem? (l := wsX8_set_o) (i := 4) rfl))
theorem ow_X8_set_51 : Cond.fieldLink RX8 51 "WrongWordModel" "status" "I" ∈ wsX8_set := List.mem_cons_of_mem _ (List.mem_append_left _ (List.mem_of_getElem? (l := wsX8_set_o) (i := 5) rfl))
theorem ow_X8_set_55 : Cond.constant RX8 55 (-1000010) ∈ wsX8_set := List.mem_cons_of_mem _ (List.mem_append_left _ (List.mem_of_getElem? (l := wsX8_set_o) (i := 6) rfl))
theorem hS_X8_isPart : yX8_isPart.cls ≠ "java/lang/invoke/MethodHandle" ∧ yX8_isPart.cls ≠ "java/lang/invoke/VarHandle" ∧ (parseMethodDescriptor yX8_isPart.desc).map (fun d => d.parameters.length) = some 3 := ⟨nm_X8.1, nm_X8.2, pd_14⟩
theorem hV_X8_isPart : yX8_isPart.cls = RX8 ∧ yX8_isPart.cls ≠ "java/lang/invoke/MethodHandle" ∧ yX8_isPart.cls ≠ "java/lang/invoke/VarHandle" ∧ (parseMethodDescriptor yX8_isPart.desc).map (fun d => d.parameters.length) = some 3 := ⟨rfl, hS_X8_isPart⟩
theorem fi_X8_isPart_X8 : ∀ w ∈ wsX80, w ∈ wsX8_isPart := fun _ h => List.mem_cons_of_mem _ (List.mem_append_right _ (List.mem_append_left _ h))
theorem ow_X8_isPart_13 : Cond.fieldLink RX8 13 "WrongWordModel" "many" "[I" ∈ wsX8_isPart := List.mem_cons_of_mem _ (List.mem_append_left _ (List.mem_of_getElem? (l := wsX8_isPart_o) (i := 0) rfl))
theorem hS_X8_copy : yX8_copy.cls ≠ "java/lang/invoke/MethodHandle" ∧ yX8_copy.cls ≠ "java/lang/invoke/VarHandle" ∧ (parseMethodDescriptor yX8_copy.desc).map (fun d => d.parameters.length) = some 5 := ⟨nm_X8.1, nm_X8.2, pd_24⟩
theorem hV_X8_copy : yX8_copy.cls = RX8 ∧ yX8_copy.cls ≠ "java/lang/invoke/MethodHandle" ∧ yX8_copy.cls ≠ "java/lang/invoke/VarHandle" ∧ (parseMethodDescriptor yX8_copy.desc).map (fun d => d.parameters.length) = some 5 := ⟨rfl, hS_X8_copy⟩
theorem fi_X8_copy_X8 : ∀ w ∈ wsX80, w ∈ wsX8_copy := fun _ h => List.mem_cons_of_mem _ (List.mem_append_right _ (List.mem_append_right _ (List.mem_append_right _ (List.mem_append_right _ (List.mem_append_right _ (List.mem_append_right _ (List.mem_append_left _ h)))))))
theorem ow_X8_copy_64 : Cond.constant RX8 64 (-1000001) ∈ wsX8_copy := List.mem_cons_of_mem _ (List.mem_append_left _ (List.mem_of_getElem? (l := wsX8_copy_o) (i := 0) rfl))
theorem ow_X8_copy_7 : Cond.fieldLink RX8 7 "WrongWordModel" "lane" "[I" ∈ wsX8_copy := List.mem_cons_of_mem _ (List.mem_append_left _ (List.mem_of_getElem? (l := wsX8_copy_o) (i := 1) rfl))
theorem ow_X8_copy_19 : Cond.fieldLink RX8 19 "WrongWordModel" "spare" "[I" ∈ wsX8_copy := List.mem_cons_of_mem _ (List.mem_append_left _ (List.mem_of_getElem? (l := wsX8_copy_o) (i := 2) rfl))
theorem ow_X8_copy_16 : Cond.fieldLink RX8 16 "WrongWordModel" "items" "[I" ∈ wsX8_copy := List.mem_cons_of_mem _ (List.mem_append_left _ (List.mem_of_getElem? (l := wsX8_copy_o) (i := 3) rfl))
theorem ow_X8_copy_50 : Cond.constant RX8 50 (-1000000) ∈ wsX8_copy := List.mem_cons_of_mem _ (List.mem_append_left _ (List.mem_of_getElem? (l := wsX8_copy_o) (i := 5) rfl))
theorem ow_X8_copy_51 : Cond.fieldLink RX8 51 "WrongWordModel" "status" "I" ∈ wsX8_copy := List.mem_cons_of_mem _ (List.mem_append_left _ (List.mem_of_getElem? (l := wsX8_copy_o) (i := 6) rfl))
theorem ow_X8_copy_55 : Cond.constant RX8 55 (-1000010) ∈ wsX8_copy := List.mem_cons_of_mem _ (List.mem_append_left _ (List.mem_of_getElem? (l := wsX8_copy_o) (i := 7) rfl))
theorem ow_X8_copy_13 : Cond.fieldLink RX8 13 "WrongWordModel" "many" "[I" ∈ wsX8_copy := List.mem_cons_of_mem _ (List.mem_append_left _ (List.mem_of_getElem? (l := wsX8_copy_o) (i := 8) rfl))
theorem hS_X8_drop : yX8_drop.cls ≠ "java/lang/invoke/MethodHandle" ∧ yX8_drop.cls ≠ "java/lang/invoke/VarHandle" ∧ (parseMethodDescriptor yX8_drop.desc).map (fun d => d.parameters.length) = some 1 := ⟨nm_X8.1, nm_X8.2, pd_8⟩
theorem hV_X8_drop : yX8_drop.cls = RX8 ∧ yX8_drop.cls ≠ "java/lang/invoke/MethodHandle" ∧ yX8_drop.cls ≠ "java/lang/invoke/VarHandle" ∧ (parseMethodDescriptor yX8_drop.desc).map (fun d => d.parameters.length) = some 1 := ⟨rfl, hS_X8_drop⟩
theorem fi_X8_drop_X8 : ∀ w ∈ wsX80, w ∈ wsX8_drop := fun _ h => List.mem_cons_of_mem _ (List.mem_append_right _ (List.mem_append_right _ (List.mem_append_right _ (List.mem_append_right _ (List.mem_append_right _ (List.mem_append_left _ h))))))
theorem ow_X8_drop_64 : Cond.constant RX8 64 (-1000001) ∈ wsX8_drop := List.mem_cons_of_mem _ (List.mem_append_left _ (List.mem_of_getElem? (l := wsX8_drop_o) (i := 0) rfl))
theorem ow_X8_drop_7 : Cond.fieldLink RX8 7 "WrongWordModel" "lane" "[I" ∈ wsX8_drop := List.mem_cons_of_mem _ (List.mem_append_left _ (List.mem_of_getElem? (l := wsX8_drop_o) (i := 1) rfl))
theorem ow_X8_drop_50 : Cond.constant RX8 50 (-1000000) ∈ wsX8_drop := List.mem_cons_of_mem _ (List.mem_append_left _ (List.mem_of_getElem? (l := wsX8_drop_o) (i := 2) rfl))
theorem ow_X8_drop_13 : Cond.fieldLink RX8 13 "WrongWordModel" "many" "[I" ∈ wsX8_drop := List.mem_cons_of_mem _ (List.mem_append_left _ (List.mem_of_getElem? (l := wsX8_drop_o) (i := 3) rfl))
theorem ow_X8_drop_51 : Cond.fieldLink RX8 51 "WrongWordModel" "status" "I" ∈ wsX8_drop := List.mem_cons_of_mem _ (List.mem_append_left _ (List.mem_of_getElem? (l := wsX8_drop_o) (i := 5) rfl))
theorem ow_X8_drop_55 : Cond.constant RX8 55 (-1000010) ∈ wsX8_drop := List.mem_cons_of_mem _ (List.mem_append_left _ (List.mem_of_getElem? (l := wsX8_drop_o) (i := 6) rfl))
theorem hS_X8_feed : yX8_feed.cls ≠ "java/lang/invoke/MethodHandle" ∧ yX8_feed.cls ≠ "java/lang/invoke/VarHandle" ∧ (parseMethodDescriptor yX8_feed.desc).map (fun d => d.parameters.length) = some 1 := ⟨nm_X8.1, nm_X8.2, pd_8⟩
theorem hV_X8_feed : yX8_feed.cls = RX8 ∧ yX8_feed.cls ≠ "java/lang/invoke/MethodHandle" ∧ yX8_feed.cls ≠ "java/lang/invoke/VarHandle" ∧ (parseMethodDescriptor yX8_feed.desc).map (fun d => d.parameters.length) = some 1 := ⟨rfl, hS_X8_feed⟩
theorem fi_X8_feed_X8 : ∀ w ∈ wsX80, w ∈ wsX8_feed := fun _ h => List.mem_cons_of_mem _ (List.mem_append_right _ (List.mem_append_right _ (List.mem_append_left _ h)))
theorem ow_X8_feed_64 : Cond.constant RX8 64 (-1000001) ∈ wsX8_feed := List.mem_cons_of_mem _ (List.mem_append_left _ (List.mem_of_getElem? (l := wsX8_feed_o) (i := 0) rfl))
theorem ow_X8_feed_82 : Cond.fieldLink RX8 82 "WrongWordModel" "taped" "I" ∈ wsX8_feed := List.mem_cons_of_mem _ (List.mem_append_left _ (List.mem_of_getElem? (l := wsX8_feed_o) (i := 1) rfl))
theorem ow_X8_feed_85 : Cond.constant RX8 85 (-1000003) ∈ wsX8_feed := List.mem_cons_of_mem _ (List.mem_append_left _ (List.mem_of_getElem? (l := wsX8_feed_o) (i := 2) rfl))
theorem ow_X8_feed_22 : Cond.fieldLink RX8 22 "WrongWordModel" "tape" "[I" ∈ wsX8_feed := List.mem_cons_of_mem _ (List.mem_append_left _ (List.mem_of_getElem? (l := wsX8_feed_o) (i := 3) rfl))
theorem hS_X8_byteAt : yX8_byteAt.cls ≠ "java/lang/invoke/MethodHandle" ∧ yX8_byteAt.cls ≠ "java/lang/invoke/VarHandle" ∧ (parseMethodDescriptor yX8_byteAt.desc).map (fun d => d.parameters.length) = some 1 := ⟨nm_X8.1, nm_X8.2, pd_8⟩
theorem hV_X8_byteAt : yX8_byteAt.cls = RX8 ∧ yX8_byteAt.cls ≠ "java/lang/invoke/MethodHandle" ∧ yX8_byteAt.cls ≠ "java/lang/invoke/VarHandle" ∧ (parseMethodDescriptor yX8_byteAt.desc).map (fun d => d.parameters.length) = some 1 := ⟨rfl, hS_X8_byteAt⟩
theorem fi_X8_byteAt_X8 : ∀ w ∈ wsX80, w ∈ wsX8_byteAt := fun _ h => List.mem_cons_of_mem _ (List.mem_append_right _ (List.mem_append_left _ h))
theorem ow_X8_byteAt_82 : Cond.fieldLink RX8 82 "WrongWordModel" "taped" "I" ∈ wsX8_byteAt := List.mem_cons_of_mem _ (List.mem_append_left _ (List.mem_of_getElem? (l := wsX8_byteAt_o) (i := 0) rfl))
theorem ow_X8_byteAt_22 : Cond.fieldLink RX8 22 "WrongWordModel" "tape" "[I" ∈ wsX8_byteAt := List.mem_cons_of_mem _ (List.mem_append_left _ (List.mem_of_getElem? (l := wsX8_byteAt_o) (i := 1) rfl))
theorem hS_X8_advances : yX8_advances.cls ≠ "java/lang/invoke/MethodHandle" ∧ yX8_advances.cls ≠ "java/lang/invoke/VarHandle" ∧ (parseMethodDescriptor yX8_advances.desc).map (fun d => d.parameters.length) = some 0 := ⟨nm_X8.1, nm_X8.2, pd_0⟩
theorem hV_X8_advances : yX8_advances.cls = RX8 ∧ yX8_advances.cls ≠ "java/lang/invoke/MethodHandle" ∧ yX8_advances.cls ≠ "java/lang/invoke/VarHandle" ∧ (parseMethodDescriptor yX8_advances.desc).map (fun d => d.parameters.length) = some 0 := ⟨rfl, hS_X8_advances⟩
theorem fi_X8_advances_X8 : ∀ w ∈ wsX80, w ∈ wsX8_advances := fun _ h => List.mem_cons_of_mem _ (List.mem_append_right _ (List.mem_append_right _ (List.mem_append_right _ (List.mem_append_left _ h))))
theorem ow_X8_advances_86 : Cond.fieldLink RX8 86 "WrongWordModel" "at" "I" ∈ wsX8_advances := List.mem_cons_of_mem _ (List.mem_append_left _ (List.mem_of_getElem? (l := wsX8_advances_o) (i := 0) rfl))
theorem ow_X8_advances_89 : Cond.fieldLink RX8 89 "WrongWordModel" "start" "I" ∈ wsX8_advances := List.mem_cons_of_mem _ (List.mem_append_left _ (List.mem_of_getElem? (l := wsX8_advances_o) (i := 1) rfl))
theorem ow_X8_advances_95 : Cond.fieldLink RX8 95 "WrongWordModel" "value" "I" ∈ wsX8_advances := List.mem_cons_of_mem _ (List.mem_append_left _ (List.mem_of_getElem? (l := wsX8_advances_o) (i := 2) rfl))
theorem ow_X8_advances_98 : Cond.fieldLink RX8 98 "WrongWordModel" "token" "I" ∈ wsX8_advances := List.mem_cons_of_mem _ (List.mem_append_left _ (List.mem_of_getElem? (l := wsX8_advances_o) (i := 3) rfl))
theorem ow_X8_advances_82 : Cond.fieldLink RX8 82 "WrongWordModel" "taped" "I" ∈ wsX8_advances := List.mem_cons_of_mem _ (List.mem_append_left _ (List.mem_of_getElem? (l := wsX8_advances_o) (i := 4) rfl))
theorem ow_X8_advances_22 : Cond.fieldLink RX8 22 "WrongWordModel" "tape" "[I" ∈ wsX8_advances := List.mem_cons_of_mem _ (List.mem_append_left _ (List.mem_of_getElem? (l := wsX8_advances_o) (i := 5) rfl))
theorem hS_X8_isWell : yX8_isWell.cls ≠ "java/lang/invoke/MethodHandle" ∧ yX8_isWell.cls ≠ "java/lang/invoke/VarHandle" ∧ (parseMethodDescriptor yX8_isWell.desc).map (fun d => d.parameters.length) = some 0 := ⟨nm_X8.1, nm_X8.2, pd_22⟩
theorem hV_X8_isWell : yX8_isWell.cls = RX8 ∧ yX8_isWell.cls ≠ "java/lang/invoke/MethodHandle" ∧ yX8_isWell.cls ≠ "java/lang/invoke/VarHandle" ∧ (parseMethodDescriptor yX8_isWell.desc).map (fun d => d.parameters.length) = some 0 := ⟨rfl, hS_X8_isWell⟩
theorem fi_X8_isWell_X8 : ∀ w ∈ wsX80, w ∈ wsX8_isWell := fun _ h => List.mem_cons_of_mem _ (List.mem_append_right _ (List.mem_append_left _ h))
theorem ow_X8_isWell_101 : Cond.fieldLink RX8 101 "WrongWordModel" "faultPlace" "I" ∈ wsX8_isWell := List.mem_cons_of_mem _ (List.mem_append_left _ (List.mem_of_getElem? (l := wsX8_isWell_o) (i := 0) rfl))
theorem hS_X8_takes : yX8_takes.cls ≠ "java/lang/invoke/MethodHandle" ∧ yX8_takes.cls ≠ "java/lang/invoke/VarHandle" ∧ (parseMethodDescriptor yX8_takes.desc).map (fun d => d.parameters.length) = some 2 := ⟨nm_X8.1, nm_X8.2, pd_31⟩
theorem hV_X8_takes : yX8_takes.cls = RX8 ∧ yX8_takes.cls ≠ "java/lang/invoke/MethodHandle" ∧ yX8_takes.cls ≠ "java/lang/invoke/VarHandle" ∧ (parseMethodDescriptor yX8_takes.desc).map (fun d => d.parameters.length) = some 2 := ⟨rfl, hS_X8_takes⟩
theorem fi_X8_takes_X8 : ∀ w ∈ wsX80, w ∈ wsX8_takes := fun _ h => List.mem_cons_of_mem _ (List.mem_append_right _ (List.mem_append_right _ (List.mem_append_right _ (List.mem_append_left _ h))))
theorem ow_X8_takes_89 : Cond.fieldLink RX8 89 "WrongWordModel" "start" "I" ∈ wsX8_takes := List.mem_cons_of_mem _ (List.mem_append_left _ (List.mem_of_getElem? (l := wsX8_takes_o) (i := 0) rfl))
theorem ow_X8_takes_101 : Cond.fieldLink RX8 101 "WrongWordModel" "faultPlace" "I" ∈ wsX8_takes := List.mem_cons_of_mem _ (List.mem_append_left _ (List.mem_of_getElem? (l := wsX8_takes_o) (i := 1) rfl))
theorem ow_X8_takes_108 : Cond.fieldLink RX8 108 "WrongWordModel" "faultKind" "I" ∈ wsX8_takes := List.mem_cons_of_mem _ (List.mem_append_left _ (List.mem_of_getElem? (l := wsX8_takes_o) (i := 2) rfl))
theorem ow_X8_takes_95 : Cond.fieldLink RX8 95 "WrongWordModel" "value" "I" ∈ wsX8_takes := List.mem_cons_of_mem _ (List.mem_append_left _ (List.mem_of_getElem? (l := wsX8_takes_o) (i := 3) rfl))
theorem ow_X8_takes_86 : Cond.fieldLink RX8 86 "WrongWordModel" "at" "I" ∈ wsX8_takes := List.mem_cons_of_mem _ (List.mem_append_left _ (List.mem_of_getElem? (l := wsX8_takes_o) (i := 4) rfl))
theorem ow_X8_takes_98 : Cond.fieldLink RX8 98 "WrongWordModel" "token" "I" ∈ wsX8_takes := List.mem_cons_of_mem _ (List.mem_append_left _ (List.mem_of_getElem? (l := wsX8_takes_o) (i := 5) rfl))
theorem ow_X8_takes_82 : Cond.fieldLink RX8 82 "WrongWordModel" "taped" "I" ∈ wsX8_takes := List.mem_cons_of_mem _ (List.mem_append_left _ (List.mem_of_getElem? (l := wsX8_takes_o) (i := 8) rfl))
theorem ow_X8_takes_22 : Cond.fieldLink RX8 22 "WrongWordModel" "tape" "[I" ∈ wsX8_takes := List.mem_cons_of_mem _ (List.mem_append_left _ (List.mem_of_getElem? (l := wsX8_takes_o) (i := 9) rfl))
theorem hS_X8_figure : yX8_figure.cls ≠ "java/lang/invoke/MethodHandle" ∧ yX8_figure.cls ≠ "java/lang/invoke/VarHandle" ∧ (parseMethodDescriptor yX8_figure.desc).map (fun d => d.parameters.length) = some 2 := ⟨nm_X8.1, nm_X8.2, pd_10⟩
theorem hV_X8_figure : yX8_figure.cls = RX8 ∧ yX8_figure.cls ≠ "java/lang/invoke/MethodHandle" ∧ yX8_figure.cls ≠ "java/lang/invoke/VarHandle" ∧ (parseMethodDescriptor yX8_figure.desc).map (fun d => d.parameters.length) = some 2 := ⟨rfl, hS_X8_figure⟩
theorem fi_X8_figure_X8 : ∀ w ∈ wsX80, w ∈ wsX8_figure := fun _ h => List.mem_cons_of_mem _ (List.mem_append_right _ (List.mem_append_right _ (List.mem_append_right _ (List.mem_append_right _ (List.mem_append_left _ h)))))
theorem ow_X8_figure_98 : Cond.fieldLink RX8 98 "WrongWordModel" "token" "I" ∈ wsX8_figure := List.mem_cons_of_mem _ (List.mem_append_left _ (List.mem_of_getElem? (l := wsX8_figure_o) (i := 0) rfl))
theorem ow_X8_figure_95 : Cond.fieldLink RX8 95 "WrongWordModel" "value" "I" ∈ wsX8_figure := List.mem_cons_of_mem _ (List.mem_append_left _ (List.mem_of_getElem? (l := wsX8_figure_o) (i := 1) rfl))
theorem ow_X8_figure_101 : Cond.fieldLink RX8 101 "WrongWordModel" "faultPlace" "I" ∈ wsX8_figure := List.mem_cons_of_mem _ (List.mem_append_left _ (List.mem_of_getElem? (l := wsX8_figure_o) (i := 2) rfl))
theorem ow_X8_figure_89 : Cond.fieldLink RX8 89 "WrongWordModel" "start" "I" ∈ wsX8_figure := List.mem_cons_of_mem _ (List.mem_append_left _ (List.mem_of_getElem? (l := wsX8_figure_o) (i := 3) rfl))
theorem ow_X8_figure_108 : Cond.fieldLink RX8 108 "WrongWordModel" "faultKind" "I" ∈ wsX8_figure := List.mem_cons_of_mem _ (List.mem_append_left _ (List.mem_of_getElem? (l := wsX8_figure_o) (i := 4) rfl))
theorem ow_X8_figure_86 : Cond.fieldLink RX8 86 "WrongWordModel" "at" "I" ∈ wsX8_figure := List.mem_cons_of_mem _ (List.mem_append_left _ (List.mem_of_getElem? (l := wsX8_figure_o) (i := 7) rfl))
theorem ow_X8_figure_82 : Cond.fieldLink RX8 82 "WrongWordModel" "taped" "I" ∈ wsX8_figure := List.mem_cons_of_mem _ (List.mem_append_left _ (List.mem_of_getElem? (l := wsX8_figure_o) (i := 10) rfl))
theorem ow_X8_figure_22 : Cond.fieldLink RX8 22 "WrongWordModel" "tape" "[I" ∈ wsX8_figure := List.mem_cons_of_mem _ (List.mem_append_left _ (List.mem_of_getElem? (l := wsX8_figure_o) (i := 11) rfl))
theorem hS_X8_kindOf : yX8_kindOf.cls ≠ "java/lang/invoke/MethodHandle" ∧ yX8_kindOf.cls ≠ "java/lang/invoke/VarHandle" ∧ (parseMethodDescriptor yX8_kindOf.desc).map (fun d => d.parameters.length) = some 1 := ⟨nm_X8.1, nm_X8.2, pd_8⟩
theorem hV_X8_kindOf : yX8_kindOf.cls = RX8 ∧ yX8_kindOf.cls ≠ "java/lang/invoke/MethodHandle" ∧ yX8_kindOf.cls ≠ "java/lang/invoke/VarHandle" ∧ (parseMethodDescriptor yX8_kindOf.desc).map (fun d => d.parameters.length) = some 1 := ⟨rfl, hS_X8_kindOf⟩
theorem hS_X8_follows : yX8_follows.cls ≠ "java/lang/invoke/MethodHandle" ∧ yX8_follows.cls ≠ "java/lang/invoke/VarHandle" ∧ (parseMethodDescriptor yX8_follows.desc).map (fun d => d.parameters.length) = some 2 := ⟨nm_X8.1, nm_X8.2, pd_10⟩
theorem hV_X8_follows : yX8_follows.cls = RX8 ∧ yX8_follows.cls ≠ "java/lang/invoke/MethodHandle" ∧ yX8_follows.cls ≠ "java/lang/invoke/VarHandle" ∧ (parseMethodDescriptor yX8_follows.desc).map (fun d => d.parameters.length) = some 2 := ⟨rfl, hS_X8_follows⟩
theorem fi_X8_follows_X8 : ∀ w ∈ wsX80, w ∈ wsX8_follows := fun _ h => List.mem_cons_of_mem _ (List.mem_append_right _ (List.mem_append_right _ (List.mem_append_right _ (List.mem_append_left _ h))))
theorem ow_X8_follows_98 : Cond.fieldLink RX8 98 "WrongWordModel" "token" "I" ∈ wsX8_follows := List.mem_cons_of_mem _ (List.mem_append_left _ (List.mem_of_getElem? (l := wsX8_follows_o) (i := 0) rfl))
theorem ow_X8_follows_89 : Cond.fieldLink RX8 89 "WrongWordModel" "start" "I" ∈ wsX8_follows := List.mem_cons_of_mem _ (List.mem_append_left _ (List.mem_of_getElem? (l := wsX8_follows_o) (i := 1) rfl))
theorem ow_X8_follows_101 : Cond.fieldLink RX8 101 "WrongWordModel" "faultPlace" "I" ∈ wsX8_follows := List.mem_cons_of_mem _ (List.mem_append_left _ (List.mem_of_getElem? (l := wsX8_follows_o) (i := 2) rfl))
theorem ow_X8_follows_108 : Cond.fieldLink RX8 108 "WrongWordModel" "faultKind" "I" ∈ wsX8_follows := List.mem_cons_of_mem _ (List.mem_append_left _ (List.mem_of_getElem? (l := wsX8_follows_o) (i := 3) rfl))
theorem ow_X8_follows_95 : Cond.fieldLink RX8 95 "WrongWordModel" "value" "I" ∈ wsX8_follows := List.mem_cons_of_mem _ (List.mem_append_left _ (List.mem_of_getElem? (l := wsX8_follows_o) (i := 4) rfl))
theorem ow_X8_follows_86 : Cond.fieldLink RX8 86 "WrongWordModel" "at" "I" ∈ wsX8_follows := List.mem_cons_of_mem _ (List.mem_append_left _ (List.mem_of_getElem? (l := wsX8_follows_o) (i := 9) rfl))
theorem ow_X8_follows_82 : Cond.fieldLink RX8 82 "WrongWordModel" "taped" "I" ∈ wsX8_follows := List.mem_cons_of_mem _ (List.mem_append_left _ (List.mem_of_getElem? (l := wsX8_follows_o) (i := 12) rfl))
theorem ow_X8_follows_22 : Cond.fieldLink RX8 22 "WrongWordModel" "tape" "[I" ∈ wsX8_follows := List.mem_cons_of_mem _ (List.mem_append_left _ (List.mem_of_getElem? (l := wsX8_follows_o) (i := 13) rfl))
theorem hS_X8_isTold : yX8_isTold.cls ≠ "java/lang/invoke/MethodHandle" ∧ yX8_isTold.cls ≠ "java/lang/invoke/VarHandle" ∧ (parseMethodDescriptor yX8_isTold.desc).map (fun d => d.parameters.length) = some 3 := ⟨nm_X8.1, nm_X8.2, pd_14⟩
theorem hV_X8_isTold : yX8_isTold.cls = RX8 ∧ yX8_isTold.cls ≠ "java/lang/invoke/MethodHandle" ∧ yX8_isTold.cls ≠ "java/lang/invoke/VarHandle" ∧ (parseMethodDescriptor yX8_isTold.desc).map (fun d => d.parameters.length) = some 3 := ⟨rfl, hS_X8_isTold⟩
theorem fi_X8_isTold_X8 : ∀ w ∈ wsX80, w ∈ wsX8_isTold := fun _ h => List.mem_cons_of_mem _ (List.mem_append_right _ (List.mem_append_left _ h))
theorem ow_X8_isTold_28 : Cond.fieldLink RX8 28 "WrongWordModel" "draft" "[I" ∈ wsX8_isTold := List.mem_cons_of_mem _ (List.mem_append_left _ (List.mem_of_getElem? (l := wsX8_isTold_o) (i := 0) rfl))
theorem hS_X8_letterOf : yX8_letterOf.cls ≠ "java/lang/invoke/MethodHandle" ∧ yX8_letterOf.cls ≠ "java/lang/invoke/VarHandle" ∧ (parseMethodDescriptor yX8_letterOf.desc).map (fun d => d.parameters.length) = some 0 := ⟨nm_X8.1, nm_X8.2, pd_5⟩
theorem hV_X8_letterOf : yX8_letterOf.cls = RX8 ∧ yX8_letterOf.cls ≠ "java/lang/invoke/MethodHandle" ∧ yX8_letterOf.cls ≠ "java/lang/invoke/VarHandle" ∧ (parseMethodDescriptor yX8_letterOf.desc).map (fun d => d.parameters.length) = some 0 := ⟨rfl, hS_X8_letterOf⟩
theorem fi_X8_letterOf_X8 : ∀ w ∈ wsX80, w ∈ wsX8_letterOf := fun _ h => List.mem_cons_of_mem _ (List.mem_append_right _ (List.mem_append_right _ (List.mem_append_left _ h)))
theorem ow_X8_letterOf_98 : Cond.fieldLink RX8 98 "WrongWordModel" "token" "I" ∈ wsX8_letterOf := List.mem_cons_of_mem _ (List.mem_append_left _ (List.mem_of_getElem? (l := wsX8_letterOf_o) (i := 0) rfl))
theorem ow_X8_letterOf_89 : Cond.fieldLink RX8 89 "WrongWordModel" "start" "I" ∈ wsX8_letterOf := List.mem_cons_of_mem _ (List.mem_append_left _ (List.mem_of_getElem? (l := wsX8_letterOf_o) (i := 1) rfl))
theorem ow_X8_letterOf_101 : Cond.fieldLink RX8 101 "WrongWordModel" "faultPlace" "I" ∈ wsX8_letterOf := List.mem_cons_of_mem _ (List.mem_append_left _ (List.mem_of_getElem? (l := wsX8_letterOf_o) (i := 2) rfl))
theorem ow_X8_letterOf_108 : Cond.fieldLink RX8 108 "WrongWordModel" "faultKind" "I" ∈ wsX8_letterOf := List.mem_cons_of_mem _ (List.mem_append_left _ (List.mem_of_getElem? (l := wsX8_letterOf_o) (i := 3) rfl))
theorem ow_X8_letterOf_95 : Cond.fieldLink RX8 95 "WrongWordModel" "value" "I" ∈ wsX8_letterOf := List.mem_cons_of_mem _ (List.mem_append_left _ (List.mem_of_getElem? (l := wsX8_letterOf_o) (i := 4) rfl))
theorem ow_X8_letterOf_86 : Cond.fieldLink RX8 86 "WrongWordModel" "at" "I" ∈ wsX8_letterOf := List.mem_cons_of_mem _ (List.mem_append_left _ (List.mem_of_getElem? (l := wsX8_letterOf_o) (i := 9) rfl))
theorem ow_X8_letterOf_82 : Cond.fieldLink RX8 82 "WrongWordModel" "taped" "I" ∈ wsX8_letterOf := List.mem_cons_of_mem _ (List.mem_append_left _ (List.mem_of_getElem? (l := wsX8_letterOf_o) (i := 12) rfl))
theorem ow_X8_letterOf_22 : Cond.fieldLink RX8 22 "WrongWordModel" "tape" "[I" ∈ wsX8_letterOf := List.mem_cons_of_mem _ (List.mem_append_left _ (List.mem_of_getElem? (l := wsX8_letterOf_o) (i := 13) rfl))
theorem hS_X8_readsWord : yX8_readsWord.cls ≠ "java/lang/invoke/MethodHandle" ∧ yX8_readsWord.cls ≠ "java/lang/invoke/VarHandle" ∧ (parseMethodDescriptor yX8_readsWord.desc).map (fun d => d.parameters.length) = some 0 := ⟨nm_X8.1, nm_X8.2, pd_0⟩
theorem hV_X8_readsWord : yX8_readsWord.cls = RX8 ∧ yX8_readsWord.cls ≠ "java/lang/invoke/MethodHandle" ∧ yX8_readsWord.cls ≠ "java/lang/invoke/VarHandle" ∧ (parseMethodDescriptor yX8_readsWord.desc).map (fun d => d.parameters.length) = some 0 := ⟨rfl, hS_X8_readsWord⟩
theorem fi_X8_readsWord_X8 : ∀ w ∈ wsX80, w ∈ wsX8_readsWord := fun _ h => List.mem_cons_of_mem _ (List.mem_append_right _ (List.mem_append_right _ (List.mem_append_right _ (List.mem_append_right _ (List.mem_append_right _ (List.mem_append_left _ h))))))
theorem ow_X8_readsWord_28 : Cond.fieldLink RX8 28 "WrongWordModel" "draft" "[I" ∈ wsX8_readsWord := List.mem_cons_of_mem _ (List.mem_append_left _ (List.mem_of_getElem? (l := wsX8_readsWord_o) (i := 0) rfl))
theorem ow_X8_readsWord_98 : Cond.fieldLink RX8 98 "WrongWordModel" "token" "I" ∈ wsX8_readsWord := List.mem_cons_of_mem _ (List.mem_append_left _ (List.mem_of_getElem? (l := wsX8_readsWord_o) (i := 1) rfl))
theorem ow_X8_readsWord_95 : Cond.fieldLink RX8 95 "WrongWordModel" "value" "I" ∈ wsX8_readsWord := List.mem_cons_of_mem _ (List.mem_append_left _ (List.mem_of_getElem? (l := wsX8_readsWord_o) (i := 2) rfl))
theorem ow_X8_readsWord_89 : Cond.fieldLink RX8 89 "WrongWordModel" "start" "I" ∈ wsX8_readsWord := List.mem_cons_of_mem _ (List.mem_append_left _ (List.mem_of_getElem? (l := wsX8_readsWord_o) (i := 3) rfl))
theorem ow_X8_readsWord_101 : Cond.fieldLink RX8 101 "WrongWordModel" "faultPlace" "I" ∈ wsX8_readsWord := List.mem_cons_of_mem _ (List.mem_append_left _ (List.mem_of_getElem? (l := wsX8_readsWord_o) (i := 4) rfl))
theorem ow_X8_readsWord_108 : Cond.fieldLink RX8 108 "WrongWordModel" "faultKind" "I" ∈ wsX8_readsWord := List.mem_cons_of_mem _ (List.mem_append_left _ (List.mem_of_getElem? (l := wsX8_readsWord_o) (i := 5) rfl))
theorem ow_X8_readsWord_86 : Cond.fieldLink RX8 86 "WrongWordModel" "at" "I" ∈ wsX8_readsWord := List.mem_cons_of_mem _ (List.mem_append_left _ (List.mem_of_getElem? (l := wsX8_readsWord_o) (i := 8) rfl))
theorem ow_X8_readsWord_82 : Cond.fieldLink RX8 82 "WrongWordModel" "taped" "I" ∈ wsX8_readsWord := List.mem_cons_of_mem _ (List.mem_append_left _ (List.mem_of_getElem? (l := wsX8_readsWord_o) (i := 11) rfl))
theorem ow_X8_readsWord_22 : Cond.fieldLink RX8 22 "WrongWordModel" "tape" "[I" ∈ wsX8_readsWord := List.mem_cons_of_mem _ (List.mem_append_left _ (List.mem_of_getElem? (l := wsX8_readsWord_o) (i := 12) rfl))
theorem hS_X8_readsGuard : yX8_readsGuard.cls ≠ "java/lang/invoke/MethodHandle" ∧ yX8_readsGuard.cls ≠ "java/lang/invoke/VarHandle" ∧ (parseMethodDescriptor yX8_readsGuard.desc).map (fun d => d.parameters.length) = some 0 := ⟨nm_X8.1, nm_X8.2, pd_0⟩
theorem hV_X8_readsGuard : yX8_readsGuard.cls = RX8 ∧ yX8_readsGuard.cls ≠ "java/lang/invoke/MethodHandle" ∧ yX8_readsGuard.cls ≠ "java/lang/invoke/VarHandle" ∧ (parseMethodDescriptor yX8_readsGuard.desc).map (fun d => d.parameters.length) = some 0 := ⟨rfl, hS_X8_readsGuard⟩
theorem fi_X8_readsGuard_X8 : ∀ w ∈ wsX80, w ∈ wsX8_readsGuard := fun _ h => List.mem_cons_of_mem _ (List.mem_append_right _ (List.mem_append_right _ (List.mem_append_right _ (List.mem_append_right _ (List.mem_append_right _ (List.mem_append_left _ h))))))
theorem ow_X8_readsGuard_95 : Cond.fieldLink RX8 95 "WrongWordModel" "value" "I" ∈ wsX8_readsGuard := List.mem_cons_of_mem _ (List.mem_append_left _ (List.mem_of_getElem? (l := wsX8_readsGuard_o) (i := 0) rfl))
theorem ow_X8_readsGuard_28 : Cond.fieldLink RX8 28 "WrongWordModel" "draft" "[I" ∈ wsX8_readsGuard := List.mem_cons_of_mem _ (List.mem_append_left _ (List.mem_of_getElem? (l := wsX8_readsGuard_o) (i := 1) rfl))
theorem ow_X8_readsGuard_98 : Cond.fieldLink RX8 98 "WrongWordModel" "token" "I" ∈ wsX8_readsGuard := List.mem_cons_of_mem _ (List.mem_append_left _ (List.mem_of_getElem? (l := wsX8_readsGuard_o) (i := 2) rfl))
theorem ow_X8_readsGuard_89 : Cond.fieldLink RX8 89 "WrongWordModel" "start" "I" ∈ wsX8_readsGuard := List.mem_cons_of_mem _ (List.mem_append_left _ (List.mem_of_getElem? (l := wsX8_readsGuard_o) (i := 3) rfl))
theorem ow_X8_readsGuard_101 : Cond.fieldLink RX8 101 "WrongWordModel" "faultPlace" "I" ∈ wsX8_readsGuard := List.mem_cons_of_mem _ (List.mem_append_left _ (List.mem_of_getElem? (l := wsX8_readsGuard_o) (i := 4) rfl))
theorem ow_X8_readsGuard_108 : Cond.fieldLink RX8 108 "WrongWordModel" "faultKind" "I" ∈ wsX8_readsGuard := List.mem_cons_of_mem _ (List.mem_append_left _ (List.mem_of_getElem? (l := wsX8_readsGuard_o) (i := 5) rfl))
theorem ow_X8_readsGuard_86 : Cond.fieldLink RX8 86 "WrongWordModel" "at" "I" ∈ wsX8_readsGuard := List.mem_cons_of_mem _ (List.mem_append_left _ (List.mem_of_getElem? (l := wsX8_readsGuard_o) (i := 8) rfl))
theorem ow_X8_readsGuard_82 : Cond.fieldLink RX8 82 "WrongWordModel" "taped" "I" ∈ wsX8_readsGuard := List.mem_cons_of_mem _ (List.mem_append_left _ (List.mem_of_getElem? (l := wsX8_readsGuard_o) (i := 11) rfl))
theorem ow_X8_readsGuard_22 : Cond.fieldLink RX8 22 "WrongWordModel" "tape" "[I" ∈ wsX8_readsGuard := List.mem_cons_of_mem _ (List.mem_append_left _ (List.mem_of_getElem? (l := wsX8_readsGuard_o) (i := 12) rfl))
theorem hS_X8_must : yX8_must.cls ≠ "java/lang/invoke/MethodHandle" ∧ yX8_must.cls ≠ "java/lang/invoke/VarHandle" ∧ (parseMethodDescriptor yX8_must.desc).map (fun d => d.parameters.length) = some 1 := ⟨nm_X8.1, nm_X8.2, pd_32⟩
theorem hV_X8_must : yX8_must.cls = RX8 ∧ yX8_must.cls ≠ "java/lang/invoke/MethodHandle" ∧ yX8_must.cls ≠ "java/lang/invoke/VarHandle" ∧ (parseMethodDescriptor yX8_must.desc).map (fun d => d.parameters.length) = some 1 := ⟨rfl, hS_X8_must⟩
theorem fi_X8_must_X8 : ∀ w ∈ wsX80, w ∈ wsX8_must := fun _ h => List.mem_cons_of_mem _ (List.mem_append_right _ (List.mem_append_right _ (List.mem_append_right _ (List.mem_append_left _ h))))
theorem ow_X8_must_101 : Cond.fieldLink RX8 101 "WrongWordModel" "faultPlace" "I" ∈ wsX8_must := List.mem_cons_of_mem _ (List.mem_append_left _ (List.mem_of_getElem? (l := wsX8_must_o) (i := 0) rfl))
theorem ow_X8_must_89 : Cond.fieldLink RX8 89 "WrongWordModel" "start" "I" ∈ wsX8_must := List.mem_cons_of_mem _ (List.mem_append_left _ (List.mem_of_getElem? (l := wsX8_must_o) (i := 1) rfl))
theorem ow_X8_must_108 : Cond.fieldLink RX8 108 "WrongWordModel" "faultKind" "I" ∈ wsX8_must := List.mem_cons_of_mem _ (List.mem_append_left _ (List.mem_of_getElem? (l := wsX8_must_o) (i := 2) rfl))
theorem ow_X8_must_95 : Cond.fieldLink RX8 95 "WrongWordModel" "value" "I" ∈ wsX8_must := List.mem_cons_of_mem _ (List.mem_append_left _ (List.mem_of_getElem? (l := wsX8_must_o) (i := 3) rfl))
theorem ow_X8_must_86 : Cond.fieldLink RX8 86 "WrongWordModel" "at" "I" ∈ wsX8_must := List.mem_cons_of_mem _ (List.mem_append_left _ (List.mem_of_getElem? (l := wsX8_must_o) (i := 6) rfl))
theorem ow_X8_must_98 : Cond.fieldLink RX8 98 "WrongWordModel" "token" "I" ∈ wsX8_must := List.mem_cons_of_mem _ (List.mem_append_left _ (List.mem_of_getElem? (l := wsX8_must_o) (i := 7) rfl))
theorem ow_X8_must_82 : Cond.fieldLink RX8 82 "WrongWordModel" "taped" "I" ∈ wsX8_must := List.mem_cons_of_mem _ (List.mem_append_left _ (List.mem_of_getElem? (l := wsX8_must_o) (i := 10) rfl))
theorem ow_X8_must_22 : Cond.fieldLink RX8 22 "WrongWordModel" "tape" "[I" ∈ wsX8_must := List.mem_cons_of_mem _ (List.mem_append_left _ (List.mem_of_getElem? (l := wsX8_must_o) (i := 11) rfl))
theorem hS_X8_gate : yX8_gate.cls ≠ "java/lang/invoke/MethodHandle" ∧ yX8_gate.cls ≠ "java/lang/invoke/VarHandle" ∧ (parseMethodDescriptor yX8_gate.desc).map (fun d => d.parameters.length) = some 0 := ⟨nm_X8.1, nm_X8.2, pd_5⟩
theorem hV_X8_gate : yX8_gate.cls = RX8 ∧ yX8_gate.cls ≠ "java/lang/invoke/MethodHandle" ∧ yX8_gate.cls ≠ "java/lang/invoke/VarHandle" ∧ (parseMethodDescriptor yX8_gate.desc).map (fun d => d.parameters.length) = some 0 := ⟨rfl, hS_X8_gate⟩
theorem fi_X8_gate_X8 : ∀ w ∈ wsX80, w ∈ wsX8_gate := fun _ h => List.mem_cons_of_mem _ (List.mem_append_right _ (List.mem_append_right _ (List.mem_append_right _ (List.mem_append_right _ (List.mem_append_right _ (List.mem_append_right _ (List.mem_append_right _ (List.mem_append_right _ (List.mem_append_right _ (List.mem_append_right _ (List.mem_append_right _ (List.mem_append_left _ h))))))))))))
theorem ow_X8_gate_28 : Cond.fieldLink RX8 28 "WrongWordModel" "draft" "[I" ∈ wsX8_gate := List.mem_cons_of_mem _ (List.mem_append_left _ (List.mem_of_getElem? (l := wsX8_gate_o) (i := 0) rfl))
theorem ow_X8_gate_86 : Cond.fieldLink RX8 86 "WrongWordModel" "at" "I" ∈ wsX8_gate := List.mem_cons_of_mem _ (List.mem_append_left _ (List.mem_of_getElem? (l := wsX8_gate_o) (i := 1) rfl))
theorem ow_X8_gate_101 : Cond.fieldLink RX8 101 "WrongWordModel" "faultPlace" "I" ∈ wsX8_gate := List.mem_cons_of_mem _ (List.mem_append_left _ (List.mem_of_getElem? (l := wsX8_gate_o) (i := 2) rfl))
theorem ow_X8_gate_98 : Cond.fieldLink RX8 98 "WrongWordModel" "token" "I" ∈ wsX8_gate := List.mem_cons_of_mem _ (List.mem_append_left _ (List.mem_of_getElem? (l := wsX8_gate_o) (i := 3) rfl))
theorem ow_X8_gate_95 : Cond.fieldLink RX8 95 "WrongWordModel" "value" "I" ∈ wsX8_gate := List.mem_cons_of_mem _ (List.mem_append_left _ (List.mem_of_getElem? (l := wsX8_gate_o) (i := 4) rfl))
theorem ow_X8_gate_82 : Cond.fieldLink RX8 82 "WrongWordModel" "taped" "I" ∈ wsX8_gate := List.mem_cons_of_mem _ (List.mem_append_left _ (List.mem_of_getElem? (l := wsX8_gate_o) (i := 5) rfl))
theorem ow_X8_gate_144 : Cond.constant RX8 144 (-1000100) ∈ wsX8_gate := List.mem_cons_of_mem _ (List.mem_append_left _ (List.mem_of_getElem? (l := wsX8_gate_o) (i := 6) rfl))
theorem ow_X8_gate_25 : Cond.fieldLink RX8 25 "WrongWordModel" "now" "[I" ∈ wsX8_gate := List.mem_cons_of_mem _ (List.mem_append_left _ (List.mem_of_getElem? (l := wsX8_gate_o) (i := 7) rfl))
theorem ow_X8_gate_149 : Cond.fieldLink RX8 149 "WrongWordModel" "acts" "I" ∈ wsX8_gate := List.mem_cons_of_mem _ (List.mem_append_left _ (List.mem_of_getElem? (l := wsX8_gate_o) (i := 8) rfl))
theorem ow_X8_gate_89 : Cond.fieldLink RX8 89 "WrongWordModel" "start" "I" ∈ wsX8_gate := List.mem_cons_of_mem _ (List.mem_append_left _ (List.mem_of_getElem? (l := wsX8_gate_o) (i := 9) rfl))
theorem ow_X8_gate_22 : Cond.fieldLink RX8 22 "WrongWordModel" "tape" "[I" ∈ wsX8_gate := List.mem_cons_of_mem _ (List.mem_append_left _ (List.mem_of_getElem? (l := wsX8_gate_o) (i := 12) rfl))
theorem ow_X8_gate_108 : Cond.fieldLink RX8 108 "WrongWordModel" "faultKind" "I" ∈ wsX8_gate := List.mem_cons_of_mem _ (List.mem_append_left _ (List.mem_of_getElem? (l := wsX8_gate_o) (i := 14) rfl))
theorem hS_X8_fault : yX8_fault.cls ≠ "java/lang/invoke/MethodHandle" ∧ yX8_fault.cls ≠ "java/lang/invoke/VarHandle" ∧ (parseMethodDescriptor yX8_fault.desc).map (fun d => d.parameters.length) = some 0 := ⟨nm_X8.1, nm_X8.2, pd_5⟩
theorem hV_X8_fault : yX8_fault.cls = RX8 ∧ yX8_fault.cls ≠ "java/lang/invoke/MethodHandle" ∧ yX8_fault.cls ≠ "java/lang/invoke/VarHandle" ∧ (parseMethodDescriptor yX8_fault.desc).map (fun d => d.parameters.length) = some 0 := ⟨rfl, hS_X8_fault⟩
theorem fi_X8_fault_X8 : ∀ w ∈ wsX80, w ∈ wsX8_fault := fun _ h => List.mem_cons_of_mem _ (List.mem_append_right _ (List.mem_append_left _ h))
theorem ow_X8_fault_108 : Cond.fieldLink RX8 108 "WrongWordModel" "faultKind" "I" ∈ wsX8_fault := List.mem_cons_of_mem _ (List.mem_append_left _ (List.mem_of_getElem? (l := wsX8_fault_o) (i := 0) rfl))
theorem hS_X8_isGate : yX8_isGate.cls ≠ "java/lang/invoke/MethodHandle" ∧ yX8_isGate.cls ≠ "java/lang/invoke/VarHandle" ∧ (parseMethodDescriptor yX8_isGate.desc).map (fun d => d.parameters.length) = some 0 := ⟨nm_X8.1, nm_X8.2, pd_22⟩
theorem hV_X8_isGate : yX8_isGate.cls = RX8 ∧ yX8_isGate.cls ≠ "java/lang/invoke/MethodHandle" ∧ yX8_isGate.cls ≠ "java/lang/invoke/VarHandle" ∧ (parseMethodDescriptor yX8_isGate.desc).map (fun d => d.parameters.length) = some 0 := ⟨rfl, hS_X8_isGate⟩
theorem fi_X8_isGate_X8 : ∀ w ∈ wsX80, w ∈ wsX8_isGate := fun _ h => List.mem_cons_of_mem _ (List.mem_append_right _ (List.mem_append_left _ h))
theorem ow_X8_isGate_25 : Cond.fieldLink RX8 25 "WrongWordModel" "now" "[I" ∈ wsX8_isGate := List.mem_cons_of_mem _ (List.mem_append_left _ (List.mem_of_getElem? (l := wsX8_isGate_o) (i := 0) rfl))
theorem hS_X8_isWord : yX8_isWord.cls ≠ "java/lang/invoke/MethodHandle" ∧ yX8_isWord.cls ≠ "java/lang/invoke/VarHandle" ∧ (parseMethodDescriptor yX8_isWord.desc).map (fun d => d.parameters.length) = some 1 := ⟨nm_X8.1, nm_X8.2, pd_12⟩
theorem hV_X8_isWord : yX8_isWord.cls = RX8 ∧ yX8_isWord.cls ≠ "java/lang/invoke/MethodHandle" ∧ yX8_isWord.cls ≠ "java/lang/invoke/VarHandle" ∧ (parseMethodDescriptor yX8_isWord.desc).map (fun d => d.parameters.length) = some 1 := ⟨rfl, hS_X8_isWord⟩
theorem fi_X8_isWord_X8 : ∀ w ∈ wsX80, w ∈ wsX8_isWord := fun _ h => List.mem_cons_of_mem _ (List.mem_append_right _ (List.mem_append_right _ (List.mem_append_left _ h)))
theorem ow_X8_isWord_25 : Cond.fieldLink RX8 25 "WrongWordModel" "now" "[I" ∈ wsX8_isWord := List.mem_cons_of_mem _ (List.mem_append_left _ (List.mem_of_getElem? (l := wsX8_isWord_o) (i := 0) rfl))
theorem hS_X8_isGuard : yX8_isGuard.cls ≠ "java/lang/invoke/MethodHandle" ∧ yX8_isGuard.cls ≠ "java/lang/invoke/VarHandle" ∧ (parseMethodDescriptor yX8_isGuard.desc).map (fun d => d.parameters.length) = some 1 := ⟨nm_X8.1, nm_X8.2, pd_12⟩
theorem hV_X8_isGuard : yX8_isGuard.cls = RX8 ∧ yX8_isGuard.cls ≠ "java/lang/invoke/MethodHandle" ∧ yX8_isGuard.cls ≠ "java/lang/invoke/VarHandle" ∧ (parseMethodDescriptor yX8_isGuard.desc).map (fun d => d.parameters.length) = some 1 := ⟨rfl, hS_X8_isGuard⟩
theorem fi_X8_isGuard_X8 : ∀ w ∈ wsX80, w ∈ wsX8_isGuard := fun _ h => List.mem_cons_of_mem _ (List.mem_append_right _ (List.mem_append_right _ (List.mem_append_left _ h)))
theorem ow_X8_isGuard_25 : Cond.fieldLink RX8 25 "WrongWordModel" "now" "[I" ∈ wsX8_isGuard := List.mem_cons_of_mem _ (List.mem_append_left _ (List.mem_of_getElem? (l := wsX8_isGuard_o) (i := 0) rfl))
theorem hS_X8_isHour : yX8_isHour.cls ≠ "java/lang/invoke/MethodHandle" ∧ yX8_isHour.cls ≠ "java/lang/invoke/VarHandle" ∧ (parseMethodDescriptor yX8_isHour.desc).map (fun d => d.parameters.length) = some 1 := ⟨nm_X8.1, nm_X8.2, pd_12⟩
theorem hV_X8_isHour : yX8_isHour.cls = RX8 ∧ yX8_isHour.cls ≠ "java/lang/invoke/MethodHandle" ∧ yX8_isHour.cls ≠ "java/lang/invoke/VarHandle" ∧ (parseMethodDescriptor yX8_isHour.desc).map (fun d => d.parameters.length) = some 1 := ⟨rfl, hS_X8_isHour⟩
theorem hS_X8_isFar : yX8_isFar.cls ≠ "java/lang/invoke/MethodHandle" ∧ yX8_isFar.cls ≠ "java/lang/invoke/VarHandle" ∧ (parseMethodDescriptor yX8_isFar.desc).map (fun d => d.parameters.length) = some 1 := ⟨nm_X8.1, nm_X8.2, pd_12⟩
theorem hV_X8_isFar : yX8_isFar.cls = RX8 ∧ yX8_isFar.cls ≠ "java/lang/invoke/MethodHandle" ∧ yX8_isFar.cls ≠ "java/lang/invoke/VarHandle" ∧ (parseMethodDescriptor yX8_isFar.desc).map (fun d => d.parameters.length) = some 1 := ⟨rfl, hS_X8_isFar⟩
theorem hS_X8_areWords : yX8_areWords.cls ≠ "java/lang/invoke/MethodHandle" ∧ yX8_areWords.cls ≠ "java/lang/invoke/VarHandle" ∧ (parseMethodDescriptor yX8_areWords.desc).map (fun d => d.parameters.length) = some 1 := ⟨nm_X8.1, nm_X8.2, pd_12⟩
theorem hV_X8_areWords : yX8_areWords.cls = RX8 ∧ yX8_areWords.cls ≠ "java/lang/invoke/MethodHandle" ∧ yX8_areWords.cls ≠ "java/lang/invoke/VarHandle" ∧ (parseMethodDescriptor yX8_areWords.desc).map (fun d => d.parameters.length) = some 1 := ⟨rfl, hS_X8_areWords⟩
theorem fi_X8_areWords_X8 : ∀ w ∈ wsX80, w ∈ wsX8_areWords := fun _ h => List.mem_cons_of_mem _ (List.mem_append_right _ (List.mem_append_right _ (List.mem_append_left _ h)))
theorem ow_X8_areWords_25 : Cond.fieldLink RX8 25 "WrongWordModel" "now" "[I" ∈ wsX8_areWords := List.mem_cons_of_mem _ (List.mem_append_left _ (List.mem_of_getElem? (l := wsX8_areWords_o) (i := 0) rfl))
theorem hS_X8_secretOf : yX8_secretOf.cls ≠ "java/lang/invoke/MethodHandle" ∧ yX8_secretOf.cls ≠ "java/lang/invoke/VarHandle" ∧ (parseMethodDescriptor yX8_secretOf.desc).map (fun d => d.parameters.length) = some 2 := ⟨nm_X8.1, nm_X8.2, pd_33⟩
theorem hV_X8_secretOf : yX8_secretOf.cls = RX8 ∧ yX8_secretOf.cls ≠ "java/lang/invoke/MethodHandle" ∧ yX8_secretOf.cls ≠ "java/lang/invoke/VarHandle" ∧ (parseMethodDescriptor yX8_secretOf.desc).map (fun d => d.parameters.length) = some 2 := ⟨rfl, hS_X8_secretOf⟩
theorem hS_X8_distance : yX8_distance.cls ≠ "java/lang/invoke/MethodHandle" ∧ yX8_distance.cls ≠ "java/lang/invoke/VarHandle" ∧ (parseMethodDescriptor yX8_distance.desc).map (fun d => d.parameters.length) = some 2 := ⟨nm_X8.1, nm_X8.2, pd_10⟩
theorem hV_X8_distance : yX8_distance.cls = RX8 ∧ yX8_distance.cls ≠ "java/lang/invoke/MethodHandle" ∧ yX8_distance.cls ≠ "java/lang/invoke/VarHandle" ∧ (parseMethodDescriptor yX8_distance.desc).map (fun d => d.parameters.length) = some 2 := ⟨rfl, hS_X8_distance⟩
theorem fi_X8_distance_X8 : ∀ w ∈ wsX80, w ∈ wsX8_distance := fun _ h => List.mem_cons_of_mem _ (List.mem_append_right _ (List.mem_append_left _ h))
theorem ow_X8_distance_25 : Cond.fieldLink RX8 25 "WrongWordModel" "now" "[I" ∈ wsX8_distance := List.mem_cons_of_mem _ (List.mem_append_left _ (List.mem_of_getElem? (l := wsX8_distance_o) (i := 0) rfl))
theorem hS_X8_lips : yX8_lips.cls ≠ "java/lang/invoke/MethodHandle" ∧ yX8_lips.cls ≠ "java/lang/invoke/VarHandle" ∧ (parseMethodDescriptor yX8_lips.desc).map (fun d => d.parameters.length) = some 2 := ⟨nm_X8.1, nm_X8.2, pd_10⟩
theorem hV_X8_lips : yX8_lips.cls = RX8 ∧ yX8_lips.cls ≠ "java/lang/invoke/MethodHandle" ∧ yX8_lips.cls ≠ "java/lang/invoke/VarHandle" ∧ (parseMethodDescriptor yX8_lips.desc).map (fun d => d.parameters.length) = some 2 := ⟨rfl, hS_X8_lips⟩
theorem fi_X8_lips_X8 : ∀ w ∈ wsX80, w ∈ wsX8_lips := fun _ h => List.mem_cons_of_mem _ (List.mem_append_right _ (List.mem_append_left _ h))
theorem ow_X8_lips_25 : Cond.fieldLink RX8 25 "WrongWordModel" "now" "[I" ∈ wsX8_lips := List.mem_cons_of_mem _ (List.mem_append_left _ (List.mem_of_getElem? (l := wsX8_lips_o) (i := 0) rfl))
theorem hS_X8_takesBy : yX8_takesBy.cls ≠ "java/lang/invoke/MethodHandle" ∧ yX8_takesBy.cls ≠ "java/lang/invoke/VarHandle" ∧ (parseMethodDescriptor yX8_takesBy.desc).map (fun d => d.parameters.length) = some 4 := ⟨nm_X8.1, nm_X8.2, pd_13⟩
theorem hV_X8_takesBy : yX8_takesBy.cls = RX8 ∧ yX8_takesBy.cls ≠ "java/lang/invoke/MethodHandle" ∧ yX8_takesBy.cls ≠ "java/lang/invoke/VarHandle" ∧ (parseMethodDescriptor yX8_takesBy.desc).map (fun d => d.parameters.length) = some 4 := ⟨rfl, hS_X8_takesBy⟩
theorem fi_X8_takesBy_X8 : ∀ w ∈ wsX80, w ∈ wsX8_takesBy := fun _ h => List.mem_cons_of_mem _ (List.mem_append_right _ (List.mem_append_right _ (List.mem_append_right _ (List.mem_append_left _ h))))
theorem ow_X8_takesBy_25 : Cond.fieldLink RX8 25 "WrongWordModel" "now" "[I" ∈ wsX8_takesBy := List.mem_cons_of_mem _ (List.mem_append_left _ (List.mem_of_getElem? (l := wsX8_takesBy_o) (i := 0) rfl))
theorem hS_X8_guardOn : yX8_guardOn.cls ≠ "java/lang/invoke/MethodHandle" ∧ yX8_guardOn.cls ≠ "java/lang/invoke/VarHandle" ∧ (parseMethodDescriptor yX8_guardOn.desc).map (fun d => d.parameters.length) = some 2 := ⟨nm_X8.1, nm_X8.2, pd_10⟩
theorem hV_X8_guardOn : yX8_guardOn.cls = RX8 ∧ yX8_guardOn.cls ≠ "java/lang/invoke/MethodHandle" ∧ yX8_guardOn.cls ≠ "java/lang/invoke/VarHandle" ∧ (parseMethodDescriptor yX8_guardOn.desc).map (fun d => d.parameters.length) = some 2 := ⟨rfl, hS_X8_guardOn⟩
theorem fi_X8_guardOn_X8 : ∀ w ∈ wsX80, w ∈ wsX8_guardOn := fun _ h => List.mem_cons_of_mem _ (List.mem_append_right _ (List.mem_append_left _ h))
theorem ow_X8_guardOn_25 : Cond.fieldLink RX8 25 "WrongWordModel" "now" "[I" ∈ wsX8_guardOn := List.mem_cons_of_mem _ (List.mem_append_left _ (List.mem_of_getElem? (l := wsX8_guardOn_o) (i := 0) rfl))
theorem hS_X8_kindIn : yX8_kindIn.cls ≠ "java/lang/invoke/MethodHandle" ∧ yX8_kindIn.cls ≠ "java/lang/invoke/VarHandle" ∧ (parseMethodDescriptor yX8_kindIn.desc).map (fun d => d.parameters.length) = some 1 := ⟨nm_X8.1, nm_X8.2, pd_8⟩
theorem hV_X8_kindIn : yX8_kindIn.cls = RX8 ∧ yX8_kindIn.cls ≠ "java/lang/invoke/MethodHandle" ∧ yX8_kindIn.cls ≠ "java/lang/invoke/VarHandle" ∧ (parseMethodDescriptor yX8_kindIn.desc).map (fun d => d.parameters.length) = some 1 := ⟨rfl, hS_X8_kindIn⟩
theorem fi_X8_kindIn_X8 : ∀ w ∈ wsX80, w ∈ wsX8_kindIn := fun _ h => List.mem_cons_of_mem _ (List.mem_append_right _ (List.mem_append_left _ h))
theorem ow_X8_kindIn_25 : Cond.fieldLink RX8 25 "WrongWordModel" "now" "[I" ∈ wsX8_kindIn := List.mem_cons_of_mem _ (List.mem_append_left _ (List.mem_of_getElem? (l := wsX8_kindIn_o) (i := 0) rfl))
theorem hS_X8_isTaken : yX8_isTaken.cls ≠ "java/lang/invoke/MethodHandle" ∧ yX8_isTaken.cls ≠ "java/lang/invoke/VarHandle" ∧ (parseMethodDescriptor yX8_isTaken.desc).map (fun d => d.parameters.length) = some 5 := ⟨nm_X8.1, nm_X8.2, pd_34⟩
theorem hV_X8_isTaken : yX8_isTaken.cls = RX8 ∧ yX8_isTaken.cls ≠ "java/lang/invoke/MethodHandle" ∧ yX8_isTaken.cls ≠ "java/lang/invoke/VarHandle" ∧ (parseMethodDescriptor yX8_isTaken.desc).map (fun d => d.parameters.length) = some 5 := ⟨rfl, hS_X8_isTaken⟩
theorem fi_X8_isTaken_X8 : ∀ w ∈ wsX80, w ∈ wsX8_isTaken := fun _ h => List.mem_cons_of_mem _ (List.mem_append_right _ (List.mem_append_right _ (List.mem_append_right _ (List.mem_append_right _ (List.mem_append_right _ (List.mem_append_left _ h))))))
theorem ow_X8_isTaken_25 : Cond.fieldLink RX8 25 "WrongWordModel" "now" "[I" ∈ wsX8_isTaken := List.mem_cons_of_mem _ (List.mem_append_left _ (List.mem_of_getElem? (l := wsX8_isTaken_o) (i := 0) rfl))
theorem hS_X8_isTakenNow : yX8_isTakenNow.cls ≠ "java/lang/invoke/MethodHandle" ∧ yX8_isTakenNow.cls ≠ "java/lang/invoke/VarHandle" ∧ (parseMethodDescriptor yX8_isTakenNow.desc).map (fun d => d.parameters.length) = some 3 := ⟨nm_X8.1, nm_X8.2, pd_14⟩
theorem hV_X8_isTakenNow : yX8_isTakenNow.cls = RX8 ∧ yX8_isTakenNow.cls ≠ "java/lang/invoke/MethodHandle" ∧ yX8_isTakenNow.cls ≠ "java/lang/invoke/VarHandle" ∧ (parseMethodDescriptor yX8_isTakenNow.desc).map (fun d => d.parameters.length) = some 3 := ⟨rfl, hS_X8_isTakenNow⟩
theorem fi_X8_isTakenNow_X8 : ∀ w ∈ wsX80, w ∈ wsX8_isTakenNow := fun _ h => List.mem_cons_of_mem _ (List.mem_append_right _ (List.mem_append_right _ (List.mem_append_right _ (List.mem_append_left _ h))))
theorem ow_X8_isTakenNow_25 : Cond.fieldLink RX8 25 "WrongWordModel" "now" "[I" ∈ wsX8_isTakenNow := List.mem_cons_of_mem _ (List.mem_append_left _ (List.mem_of_getElem? (l := wsX8_isTakenNow_o) (i := 0) rfl))
theorem hS_X8_notes : yX8_notes.cls ≠ "java/lang/invoke/MethodHandle" ∧ yX8_notes.cls ≠ "java/lang/invoke/VarHandle" ∧ (parseMethodDescriptor yX8_notes.desc).map (fun d => d.parameters.length) = some 0 := ⟨nm_X8.1, nm_X8.2, pd_0⟩
theorem hV_X8_notes : yX8_notes.cls = RX8 ∧ yX8_notes.cls ≠ "java/lang/invoke/MethodHandle" ∧ yX8_notes.cls ≠ "java/lang/invoke/VarHandle" ∧ (parseMethodDescriptor yX8_notes.desc).map (fun d => d.parameters.length) = some 0 := ⟨rfl, hS_X8_notes⟩
theorem fi_X8_notes_X8 : ∀ w ∈ wsX80, w ∈ wsX8_notes := fun _ h => List.mem_cons_of_mem _ (List.mem_append_right _ (List.mem_append_right _ (List.mem_append_left _ h)))
theorem ow_X8_notes_149 : Cond.fieldLink RX8 149 "WrongWordModel" "acts" "I" ∈ wsX8_notes := List.mem_cons_of_mem _ (List.mem_append_left _ (List.mem_of_getElem? (l := wsX8_notes_o) (i := 0) rfl))
theorem ow_X8_notes_34 : Cond.fieldLink RX8 34 "WrongWordModel" "past" "[I" ∈ wsX8_notes := List.mem_cons_of_mem _ (List.mem_append_left _ (List.mem_of_getElem? (l := wsX8_notes_o) (i := 1) rfl))
theorem ow_X8_notes_25 : Cond.fieldLink RX8 25 "WrongWordModel" "now" "[I" ∈ wsX8_notes := List.mem_cons_of_mem _ (List.mem_append_left _ (List.mem_of_getElem? (l := wsX8_notes_o) (i := 2) rfl))
theorem hS_X8_forgets : yX8_forgets.cls ≠ "java/lang/invoke/MethodHandle" ∧ yX8_forgets.cls ≠ "java/lang/invoke/VarHandle" ∧ (parseMethodDescriptor yX8_forgets.desc).map (fun d => d.parameters.length) = some 0 := ⟨nm_X8.1, nm_X8.2, pd_0⟩
theorem hV_X8_forgets : yX8_forgets.cls = RX8 ∧ yX8_forgets.cls ≠ "java/lang/invoke/MethodHandle" ∧ yX8_forgets.cls ≠ "java/lang/invoke/VarHandle" ∧ (parseMethodDescriptor yX8_forgets.desc).map (fun d => d.parameters.length) = some 0 := ⟨rfl, hS_X8_forgets⟩
theorem fi_X8_forgets_X8 : ∀ w ∈ wsX80, w ∈ wsX8_forgets := fun _ h => List.mem_cons_of_mem _ (List.mem_append_right _ (List.mem_append_left _ h))
theorem ow_X8_forgets_25 : Cond.fieldLink RX8 25 "WrongWordModel" "now" "[I" ∈ wsX8_forgets := List.mem_cons_of_mem _ (List.mem_append_left _ (List.mem_of_getElem? (l := wsX8_forgets_o) (i := 0) rfl))
theorem hS_X8_nights : yX8_nights.cls ≠ "java/lang/invoke/MethodHandle" ∧ yX8_nights.cls ≠ "java/lang/invoke/VarHandle" ∧ (parseMethodDescriptor yX8_nights.desc).map (fun d => d.parameters.length) = some 1 := ⟨nm_X8.1, nm_X8.2, pd_8⟩
theorem hV_X8_nights : yX8_nights.cls = RX8 ∧ yX8_nights.cls ≠ "java/lang/invoke/MethodHandle" ∧ yX8_nights.cls ≠ "java/lang/invoke/VarHandle" ∧ (parseMethodDescriptor yX8_nights.desc).map (fun d => d.parameters.length) = some 1 := ⟨rfl, hS_X8_nights⟩
theorem fi_X8_nights_X8 : ∀ w ∈ wsX80, w ∈ wsX8_nights := fun _ h => List.mem_cons_of_mem _ (List.mem_append_right _ (List.mem_append_right _ (List.mem_append_right _ (List.mem_append_right _ (List.mem_append_right _ (List.mem_append_right _ (List.mem_append_left _ h)))))))
theorem ow_X8_nights_183 : Cond.constant RX8 183 (-1000002) ∈ wsX8_nights := List.mem_cons_of_mem _ (List.mem_append_left _ (List.mem_of_getElem? (l := wsX8_nights_o) (i := 0) rfl))
theorem ow_X8_nights_64 : Cond.constant RX8 64 (-1000001) ∈ wsX8_nights := List.mem_cons_of_mem _ (List.mem_append_left _ (List.mem_of_getElem? (l := wsX8_nights_o) (i := 1) rfl))
theorem ow_X8_nights_25 : Cond.fieldLink RX8 25 "WrongWordModel" "now" "[I" ∈ wsX8_nights := List.mem_cons_of_mem _ (List.mem_append_left _ (List.mem_of_getElem? (l := wsX8_nights_o) (i := 2) rfl))
theorem ow_X8_nights_85 : Cond.constant RX8 85 (-1000003) ∈ wsX8_nights := List.mem_cons_of_mem _ (List.mem_append_left _ (List.mem_of_getElem? (l := wsX8_nights_o) (i := 3) rfl))
theorem ow_X8_nights_149 : Cond.fieldLink RX8 149 "WrongWordModel" "acts" "I" ∈ wsX8_nights := List.mem_cons_of_mem _ (List.mem_append_left _ (List.mem_of_getElem? (l := wsX8_nights_o) (i := 4) rfl))
theorem ow_X8_nights_34 : Cond.fieldLink RX8 34 "WrongWordModel" "past" "[I" ∈ wsX8_nights := List.mem_cons_of_mem _ (List.mem_append_left _ (List.mem_of_getElem? (l := wsX8_nights_o) (i := 5) rfl))
theorem hS_X8_say : yX8_say.cls ≠ "java/lang/invoke/MethodHandle" ∧ yX8_say.cls ≠ "java/lang/invoke/VarHandle" ∧ (parseMethodDescriptor yX8_say.desc).map (fun d => d.parameters.length) = some 2 := ⟨nm_X8.1, nm_X8.2, pd_10⟩
theorem hV_X8_say : yX8_say.cls = RX8 ∧ yX8_say.cls ≠ "java/lang/invoke/MethodHandle" ∧ yX8_say.cls ≠ "java/lang/invoke/VarHandle" ∧ (parseMethodDescriptor yX8_say.desc).map (fun d => d.parameters.length) = some 2 := ⟨rfl, hS_X8_say⟩
theorem fi_X8_say_X8 : ∀ w ∈ wsX80, w ∈ wsX8_say := fun _ h => List.mem_cons_of_mem _ (List.mem_append_right _ (List.mem_append_right _ (List.mem_append_right _ (List.mem_append_right _ (List.mem_append_right _ (List.mem_append_right _ (List.mem_append_right _ (List.mem_append_left _ h))))))))
theorem ow_X8_say_64 : Cond.constant RX8 64 (-1000001) ∈ wsX8_say := List.mem_cons_of_mem _ (List.mem_append_left _ (List.mem_of_getElem? (l := wsX8_say_o) (i := 0) rfl))
theorem ow_X8_say_25 : Cond.fieldLink RX8 25 "WrongWordModel" "now" "[I" ∈ wsX8_say := List.mem_cons_of_mem _ (List.mem_append_left _ (List.mem_of_getElem? (l := wsX8_say_o) (i := 1) rfl))
theorem ow_X8_say_85 : Cond.constant RX8 85 (-1000003) ∈ wsX8_say := List.mem_cons_of_mem _ (List.mem_append_left _ (List.mem_of_getElem? (l := wsX8_say_o) (i := 2) rfl))
theorem ow_X8_say_149 : Cond.fieldLink RX8 149 "WrongWordModel" "acts" "I" ∈ wsX8_say := List.mem_cons_of_mem _ (List.mem_append_left _ (List.mem_of_getElem? (l := wsX8_say_o) (i := 4) rfl))
theorem ow_X8_say_34 : Cond.fieldLink RX8 34 "WrongWordModel" "past" "[I" ∈ wsX8_say := List.mem_cons_of_mem _ (List.mem_append_left _ (List.mem_of_getElem? (l := wsX8_say_o) (i := 5) rfl))
theorem hS_X8_start : yX8_start.cls ≠ "java/lang/invoke/MethodHandle" ∧ yX8_start.cls ≠ "java/lang/invoke/VarHandle" ∧ (parseMethodDescriptor yX8_start.desc).map (fun d => d.parameters.length) = some 1 := ⟨nm_X8.1, nm_X8.2, pd_8⟩
theorem hV_X8_start : yX8_start.cls = RX8 ∧ yX8_start.cls ≠ "java/lang/invoke/MethodHandle" ∧ yX8_start.cls ≠ "java/lang/invoke/VarHandle" ∧ (parseMethodDescriptor yX8_start.desc).map (fun d => d.parameters.length) = some 1 := ⟨rfl, hS_X8_start⟩
theorem fi_X8_start_X8 : ∀ w ∈ wsX80, w ∈ wsX8_start := fun _ h => List.mem_cons_of_mem _ (List.mem_append_right _ (List.mem_append_right _ (List.mem_append_right _ (List.mem_append_right _ (List.mem_append_left _ h)))))
theorem ow_X8_start_183 : Cond.constant RX8 183 (-1000002) ∈ wsX8_start := List.mem_cons_of_mem _ (List.mem_append_left _ (List.mem_of_getElem? (l := wsX8_start_o) (i := 0) rfl))
theorem ow_X8_start_64 : Cond.constant RX8 64 (-1000001) ∈ wsX8_start := List.mem_cons_of_mem _ (List.mem_append_left _ (List.mem_of_getElem? (l := wsX8_start_o) (i := 1) rfl))
theorem ow_X8_start_25 : Cond.fieldLink RX8 25 "WrongWordModel" "now" "[I" ∈ wsX8_start := List.mem_cons_of_mem _ (List.mem_append_left _ (List.mem_of_getElem? (l := wsX8_start_o) (i := 2) rfl))
theorem ow_X8_start_149 : Cond.fieldLink RX8 149 "WrongWordModel" "acts" "I" ∈ wsX8_start := List.mem_cons_of_mem _ (List.mem_append_left _ (List.mem_of_getElem? (l := wsX8_start_o) (i := 3) rfl))
theorem ow_X8_start_34 : Cond.fieldLink RX8 34 "WrongWordModel" "past" "[I" ∈ wsX8_start := List.mem_cons_of_mem _ (List.mem_append_left _ (List.mem_of_getElem? (l := wsX8_start_o) (i := 4) rfl))
theorem hS_X8_dismiss : yX8_dismiss.cls ≠ "java/lang/invoke/MethodHandle" ∧ yX8_dismiss.cls ≠ "java/lang/invoke/VarHandle" ∧ (parseMethodDescriptor yX8_dismiss.desc).map (fun d => d.parameters.length) = some 2 := ⟨nm_X8.1, nm_X8.2, pd_10⟩
theorem hV_X8_dismiss : yX8_dismiss.cls = RX8 ∧ yX8_dismiss.cls ≠ "java/lang/invoke/MethodHandle" ∧ yX8_dismiss.cls ≠ "java/lang/invoke/VarHandle" ∧ (parseMethodDescriptor yX8_dismiss.desc).map (fun d => d.parameters.length) = some 2 := ⟨rfl, hS_X8_dismiss⟩
theorem fi_X8_dismiss_X8 : ∀ w ∈ wsX80, w ∈ wsX8_dismiss := fun _ h => List.mem_cons_of_mem _ (List.mem_append_right _ (List.mem_append_right _ (List.mem_append_right _ (List.mem_append_right _ (List.mem_append_left _ h)))))
theorem ow_X8_dismiss_64 : Cond.constant RX8 64 (-1000001) ∈ wsX8_dismiss := List.mem_cons_of_mem _ (List.mem_append_left _ (List.mem_of_getElem? (l := wsX8_dismiss_o) (i := 0) rfl))
theorem ow_X8_dismiss_25 : Cond.fieldLink RX8 25 "WrongWordModel" "now" "[I" ∈ wsX8_dismiss := List.mem_cons_of_mem _ (List.mem_append_left _ (List.mem_of_getElem? (l := wsX8_dismiss_o) (i := 1) rfl))
theorem ow_X8_dismiss_183 : Cond.constant RX8 183 (-1000002) ∈ wsX8_dismiss := List.mem_cons_of_mem _ (List.mem_append_left _ (List.mem_of_getElem? (l := wsX8_dismiss_o) (i := 2) rfl))
theorem ow_X8_dismiss_149 : Cond.fieldLink RX8 149 "WrongWordModel" "acts" "I" ∈ wsX8_dismiss := List.mem_cons_of_mem _ (List.mem_append_left _ (List.mem_of_getElem? (l := wsX8_dismiss_o) (i := 3) rfl))
theorem ow_X8_dismiss_34 : Cond.fieldLink RX8 34 "WrongWordModel" "past" "[I" ∈ wsX8_dismiss := List.mem_cons_of_mem _ (List.mem_append_left _ (List.mem_of_getElem? (l := wsX8_dismiss_o) (i := 4) rfl))
theorem hS_X8_undo : yX8_undo.cls ≠ "java/lang/invoke/MethodHandle" ∧ yX8_undo.cls ≠ "java/lang/invoke/VarHandle" ∧ (parseMethodDescriptor yX8_undo.desc).map (fun d => d.parameters.length) = some 0 := ⟨nm_X8.1, nm_X8.2, pd_5⟩
theorem hV_X8_undo : yX8_undo.cls = RX8 ∧ yX8_undo.cls ≠ "java/lang/invoke/MethodHandle" ∧ yX8_undo.cls ≠ "java/lang/invoke/VarHandle" ∧ (parseMethodDescriptor yX8_undo.desc).map (fun d => d.parameters.length) = some 0 := ⟨rfl, hS_X8_undo⟩
theorem fi_X8_undo_X8 : ∀ w ∈ wsX80, w ∈ wsX8_undo := fun _ h => List.mem_cons_of_mem _ (List.mem_append_right _ (List.mem_append_right _ (List.mem_append_left _ h)))
theorem ow_X8_undo_149 : Cond.fieldLink RX8 149 "WrongWordModel" "acts" "I" ∈ wsX8_undo := List.mem_cons_of_mem _ (List.mem_append_left _ (List.mem_of_getElem? (l := wsX8_undo_o) (i := 0) rfl))
theorem ow_X8_undo_183 : Cond.constant RX8 183 (-1000002) ∈ wsX8_undo := List.mem_cons_of_mem _ (List.mem_append_left _ (List.mem_of_getElem? (l := wsX8_undo_o) (i := 1) rfl))
theorem ow_X8_undo_34 : Cond.fieldLink RX8 34 "WrongWordModel" "past" "[I" ∈ wsX8_undo := List.mem_cons_of_mem _ (List.mem_append_left _ (List.mem_of_getElem? (l := wsX8_undo_o) (i := 2) rfl))
theorem ow_X8_undo_25 : Cond.fieldLink RX8 25 "WrongWordModel" "now" "[I" ∈ wsX8_undo := List.mem_cons_of_mem _ (List.mem_append_left _ (List.mem_of_getElem? (l := wsX8_undo_o) (i := 3) rfl))
theorem hS_X8_letter : yX8_letter.cls ≠ "java/lang/invoke/MethodHandle" ∧ yX8_letter.cls ≠ "java/lang/invoke/VarHandle" ∧ (parseMethodDescriptor yX8_letter.desc).map (fun d => d.parameters.length) = some 2 := ⟨nm_X8.1, nm_X8.2, pd_10⟩
theorem hV_X8_letter : yX8_letter.cls = RX8 ∧ yX8_letter.cls ≠ "java/lang/invoke/MethodHandle" ∧ yX8_letter.cls ≠ "java/lang/invoke/VarHandle" ∧ (parseMethodDescriptor yX8_letter.desc).map (fun d => d.parameters.length) = some 2 := ⟨rfl, hS_X8_letter⟩
theorem fi_X8_letter_X8 : ∀ w ∈ wsX80, w ∈ wsX8_letter := fun _ h => List.mem_cons_of_mem _ (List.mem_append_right _ (List.mem_append_right _ (List.mem_append_right _ (List.mem_append_left _ h))))
theorem ow_X8_letter_25 : Cond.fieldLink RX8 25 "WrongWordModel" "now" "[I" ∈ wsX8_letter := List.mem_cons_of_mem _ (List.mem_append_left _ (List.mem_of_getElem? (l := wsX8_letter_o) (i := 0) rfl))
theorem ow_X8_letter_64 : Cond.constant RX8 64 (-1000001) ∈ wsX8_letter := List.mem_cons_of_mem _ (List.mem_append_left _ (List.mem_of_getElem? (l := wsX8_letter_o) (i := 1) rfl))
theorem hS_X8_like : yX8_like.cls ≠ "java/lang/invoke/MethodHandle" ∧ yX8_like.cls ≠ "java/lang/invoke/VarHandle" ∧ (parseMethodDescriptor yX8_like.desc).map (fun d => d.parameters.length) = some 3 := ⟨nm_X8.1, nm_X8.2, pd_23⟩
theorem hV_X8_like : yX8_like.cls = RX8 ∧ yX8_like.cls ≠ "java/lang/invoke/MethodHandle" ∧ yX8_like.cls ≠ "java/lang/invoke/VarHandle" ∧ (parseMethodDescriptor yX8_like.desc).map (fun d => d.parameters.length) = some 3 := ⟨rfl, hS_X8_like⟩
theorem fi_X8_like_X8 : ∀ w ∈ wsX80, w ∈ wsX8_like := fun _ h => List.mem_cons_of_mem _ (List.mem_append_right _ (List.mem_append_right _ (List.mem_append_right _ (List.mem_append_right _ (List.mem_append_right _ (List.mem_append_left _ h))))))
theorem ow_X8_like_64 : Cond.constant RX8 64 (-1000001) ∈ wsX8_like := List.mem_cons_of_mem _ (List.mem_append_left _ (List.mem_of_getElem? (l := wsX8_like_o) (i := 0) rfl))
theorem ow_X8_like_25 : Cond.fieldLink RX8 25 "WrongWordModel" "now" "[I" ∈ wsX8_like := List.mem_cons_of_mem _ (List.mem_append_left _ (List.mem_of_getElem? (l := wsX8_like_o) (i := 1) rfl))
theorem hS_X8_hoursOf : yX8_hoursOf.cls ≠ "java/lang/invoke/MethodHandle" ∧ yX8_hoursOf.cls ≠ "java/lang/invoke/VarHandle" ∧ (parseMethodDescriptor yX8_hoursOf.desc).map (fun d => d.parameters.length) = some 1 := ⟨nm_X8.1, nm_X8.2, pd_8⟩
theorem hV_X8_hoursOf : yX8_hoursOf.cls = RX8 ∧ yX8_hoursOf.cls ≠ "java/lang/invoke/MethodHandle" ∧ yX8_hoursOf.cls ≠ "java/lang/invoke/VarHandle" ∧ (parseMethodDescriptor yX8_hoursOf.desc).map (fun d => d.parameters.length) = some 1 := ⟨rfl, hS_X8_hoursOf⟩
theorem fi_X8_hoursOf_X8 : ∀ w ∈ wsX80, w ∈ wsX8_hoursOf := fun _ h => List.mem_cons_of_mem _ (List.mem_append_right _ (List.mem_append_right _ (List.mem_append_left _ h)))
theorem ow_X8_hoursOf_25 : Cond.fieldLink RX8 25 "WrongWordModel" "now" "[I" ∈ wsX8_hoursOf := List.mem_cons_of_mem _ (List.mem_append_left _ (List.mem_of_getElem? (l := wsX8_hoursOf_o) (i := 0) rfl))
theorem hS_X8_guard : yX8_guard.cls ≠ "java/lang/invoke/MethodHandle" ∧ yX8_guard.cls ≠ "java/lang/invoke/VarHandle" ∧ (parseMethodDescriptor yX8_guard.desc).map (fun d => d.parameters.length) = some 2 := ⟨nm_X8.1, nm_X8.2, pd_10⟩
theorem hV_X8_guard : yX8_guard.cls = RX8 ∧ yX8_guard.cls ≠ "java/lang/invoke/MethodHandle" ∧ yX8_guard.cls ≠ "java/lang/invoke/VarHandle" ∧ (parseMethodDescriptor yX8_guard.desc).map (fun d => d.parameters.length) = some 2 := ⟨rfl, hS_X8_guard⟩
theorem fi_X8_guard_X8 : ∀ w ∈ wsX80, w ∈ wsX8_guard := fun _ h => List.mem_cons_of_mem _ (List.mem_append_right _ (List.mem_append_right _ (List.mem_append_right _ (List.mem_append_left _ h))))
theorem ow_X8_guard_64 : Cond.constant RX8 64 (-1000001) ∈ wsX8_guard := List.mem_cons_of_mem _ (List.mem_append_left _ (List.mem_of_getElem? (l := wsX8_guard_o) (i := 0) rfl))
theorem ow_X8_guard_25 : Cond.fieldLink RX8 25 "WrongWordModel" "now" "[I" ∈ wsX8_guard := List.mem_cons_of_mem _ (List.mem_append_left _ (List.mem_of_getElem? (l := wsX8_guard_o) (i := 1) rfl))
theorem hS_X8_tried : yX8_tried.cls ≠ "java/lang/invoke/MethodHandle" ∧ yX8_tried.cls ≠ "java/lang/invoke/VarHandle" ∧ (parseMethodDescriptor yX8_tried.desc).map (fun d => d.parameters.length) = some 2 := ⟨nm_X8.1, nm_X8.2, pd_10⟩
theorem hV_X8_tried : yX8_tried.cls = RX8 ∧ yX8_tried.cls ≠ "java/lang/invoke/MethodHandle" ∧ yX8_tried.cls ≠ "java/lang/invoke/VarHandle" ∧ (parseMethodDescriptor yX8_tried.desc).map (fun d => d.parameters.length) = some 2 := ⟨rfl, hS_X8_tried⟩
theorem fi_X8_tried_X8 : ∀ w ∈ wsX80, w ∈ wsX8_tried := fun _ h => List.mem_cons_of_mem _ (List.mem_append_right _ (List.mem_append_right _ (List.mem_append_left _ h)))
theorem ow_X8_tried_25 : Cond.fieldLink RX8 25 "WrongWordModel" "now" "[I" ∈ wsX8_tried := List.mem_cons_of_mem _ (List.mem_append_left _ (List.mem_of_getElem? (l := wsX8_tried_o) (i := 0) rfl))
theorem ow_X8_tried_64 : Cond.constant RX8 64 (-1000001) ∈ wsX8_tried := List.mem_cons_of_mem _ (List.mem_append_left _ (List.mem_of_getElem? (l := wsX8_tried_o) (i := 1) rfl))
theorem ow_X8_tried_50 : Cond.constant RX8 50 (-1000000) ∈ wsX8_tried := List.mem_cons_of_mem _ (List.mem_append_left _ (List.mem_of_getElem? (l := wsX8_tried_o) (i := 2) rfl))
theorem hS_X8_secret : yX8_secret.cls ≠ "java/lang/invoke/MethodHandle" ∧ yX8_secret.cls ≠ "java/lang/invoke/VarHandle" ∧ (parseMethodDescriptor yX8_secret.desc).map (fun d => d.parameters.length) = some 1 := ⟨nm_X8.1, nm_X8.2, pd_8⟩
theorem hV_X8_secret : yX8_secret.cls = RX8 ∧ yX8_secret.cls ≠ "java/lang/invoke/MethodHandle" ∧ yX8_secret.cls ≠ "java/lang/invoke/VarHandle" ∧ (parseMethodDescriptor yX8_secret.desc).map (fun d => d.parameters.length) = some 1 := ⟨rfl, hS_X8_secret⟩
theorem fi_X8_secret_X8 : ∀ w ∈ wsX80, w ∈ wsX8_secret := fun _ h => List.mem_cons_of_mem _ (List.mem_append_right _ (List.mem_append_right _ (List.mem_append_right _ (List.mem_append_right _ (List.mem_append_left _ h)))))
theorem ow_X8_secret_183 : Cond.constant RX8 183 (-1000002) ∈ wsX8_secret := List.mem_cons_of_mem _ (List.mem_append_left _ (List.mem_of_getElem? (l := wsX8_secret_o) (i := 0) rfl))
theorem ow_X8_secret_25 : Cond.fieldLink RX8 25 "WrongWordModel" "now" "[I" ∈ wsX8_secret := List.mem_cons_of_mem _ (List.mem_append_left _ (List.mem_of_getElem? (l := wsX8_secret_o) (i := 1) rfl))
theorem ow_X8_secret_64 : Cond.constant RX8 64 (-1000001) ∈ wsX8_secret := List.mem_cons_of_mem _ (List.mem_append_left _ (List.mem_of_getElem? (l := wsX8_secret_o) (i := 2) rfl))
theorem hS_X8_taken : yX8_taken.cls ≠ "java/lang/invoke/MethodHandle" ∧ yX8_taken.cls ≠ "java/lang/invoke/VarHandle" ∧ (parseMethodDescriptor yX8_taken.desc).map (fun d => d.parameters.length) = some 3 := ⟨nm_X8.1, nm_X8.2, pd_23⟩
theorem hV_X8_taken : yX8_taken.cls = RX8 ∧ yX8_taken.cls ≠ "java/lang/invoke/MethodHandle" ∧ yX8_taken.cls ≠ "java/lang/invoke/VarHandle" ∧ (parseMethodDescriptor yX8_taken.desc).map (fun d => d.parameters.length) = some 3 := ⟨rfl, hS_X8_taken⟩
theorem fi_X8_taken_X8 : ∀ w ∈ wsX80, w ∈ wsX8_taken := fun _ h => List.mem_cons_of_mem _ (List.mem_append_right _ (List.mem_append_right _ (List.mem_append_right _ (List.mem_append_right _ (List.mem_append_right _ (List.mem_append_left _ h))))))
theorem ow_X8_taken_64 : Cond.constant RX8 64 (-1000001) ∈ wsX8_taken := List.mem_cons_of_mem _ (List.mem_append_left _ (List.mem_of_getElem? (l := wsX8_taken_o) (i := 0) rfl))
theorem ow_X8_taken_25 : Cond.fieldLink RX8 25 "WrongWordModel" "now" "[I" ∈ wsX8_taken := List.mem_cons_of_mem _ (List.mem_append_left _ (List.mem_of_getElem? (l := wsX8_taken_o) (i := 1) rfl))
theorem hS_X8_safe : yX8_safe.cls ≠ "java/lang/invoke/MethodHandle" ∧ yX8_safe.cls ≠ "java/lang/invoke/VarHandle" ∧ (parseMethodDescriptor yX8_safe.desc).map (fun d => d.parameters.length) = some 2 := ⟨nm_X8.1, nm_X8.2, pd_10⟩
theorem hV_X8_safe : yX8_safe.cls = RX8 ∧ yX8_safe.cls ≠ "java/lang/invoke/MethodHandle" ∧ yX8_safe.cls ≠ "java/lang/invoke/VarHandle" ∧ (parseMethodDescriptor yX8_safe.desc).map (fun d => d.parameters.length) = some 2 := ⟨rfl, hS_X8_safe⟩
theorem fi_X8_safe_X8 : ∀ w ∈ wsX80, w ∈ wsX8_safe := fun _ h => List.mem_cons_of_mem _ (List.mem_append_right _ (List.mem_append_right _ (List.mem_append_right _ (List.mem_append_right _ (List.mem_append_right _ (List.mem_append_left _ h))))))
theorem ow_X8_safe_183 : Cond.constant RX8 183 (-1000002) ∈ wsX8_safe := List.mem_cons_of_mem _ (List.mem_append_left _ (List.mem_of_getElem? (l := wsX8_safe_o) (i := 0) rfl))
theorem ow_X8_safe_64 : Cond.constant RX8 64 (-1000001) ∈ wsX8_safe := List.mem_cons_of_mem _ (List.mem_append_left _ (List.mem_of_getElem? (l := wsX8_safe_o) (i := 1) rfl))
theorem ow_X8_safe_25 : Cond.fieldLink RX8 25 "WrongWordModel" "now" "[I" ∈ wsX8_safe := List.mem_cons_of_mem _ (List.mem_append_left _ (List.mem_of_getElem? (l := wsX8_safe_o) (i := 2) rfl))
theorem hS_X8_areIn : yX8_areIn.cls ≠ "java/lang/invoke/MethodHandle" ∧ yX8_areIn.cls ≠ "java/lang/invoke/VarHandle" ∧ (parseMethodDescriptor yX8_areIn.desc).map (fun d => d.parameters.length) = some 4 := ⟨nm_X8.1, nm_X8.2, pd_13⟩
theorem hV_X8_areIn : yX8_areIn.cls = RX8 ∧ yX8_areIn.cls ≠ "java/lang/invoke/MethodHandle" ∧ yX8_areIn.cls ≠ "java/lang/invoke/VarHandle" ∧ (parseMethodDescriptor yX8_areIn.desc).map (fun d => d.parameters.length) = some 4 := ⟨rfl, hS_X8_areIn⟩
theorem fi_X8_areIn_X8 : ∀ w ∈ wsX80, w ∈ wsX8_areIn := fun _ h => List.mem_cons_of_mem _ (List.mem_append_right _ (List.mem_append_right _ (List.mem_append_right _ (List.mem_append_right _ (List.mem_append_left _ h)))))
theorem ow_X8_areIn_25 : Cond.fieldLink RX8 25 "WrongWordModel" "now" "[I" ∈ wsX8_areIn := List.mem_cons_of_mem _ (List.mem_append_left _ (List.mem_of_getElem? (l := wsX8_areIn_o) (i := 0) rfl))
theorem hS_X8_open : yX8_open.cls ≠ "java/lang/invoke/MethodHandle" ∧ yX8_open.cls ≠ "java/lang/invoke/VarHandle" ∧ (parseMethodDescriptor yX8_open.desc).map (fun d => d.parameters.length) = some 2 := ⟨nm_X8.1, nm_X8.2, pd_10⟩
theorem hV_X8_open : yX8_open.cls = RX8 ∧ yX8_open.cls ≠ "java/lang/invoke/MethodHandle" ∧ yX8_open.cls ≠ "java/lang/invoke/VarHandle" ∧ (parseMethodDescriptor yX8_open.desc).map (fun d => d.parameters.length) = some 2 := ⟨rfl, hS_X8_open⟩
theorem fi_X8_open_X8 : ∀ w ∈ wsX80, w ∈ wsX8_open := fun _ h => List.mem_cons_of_mem _ (List.mem_append_right _ (List.mem_append_right _ (List.mem_append_right _ (List.mem_append_right _ (List.mem_append_right _ (List.mem_append_left _ h))))))
theorem ow_X8_open_183 : Cond.constant RX8 183 (-1000002) ∈ wsX8_open := List.mem_cons_of_mem _ (List.mem_append_left _ (List.mem_of_getElem? (l := wsX8_open_o) (i := 0) rfl))
theorem ow_X8_open_64 : Cond.constant RX8 64 (-1000001) ∈ wsX8_open := List.mem_cons_of_mem _ (List.mem_append_left _ (List.mem_of_getElem? (l := wsX8_open_o) (i := 1) rfl))
theorem ow_X8_open_25 : Cond.fieldLink RX8 25 "WrongWordModel" "now" "[I" ∈ wsX8_open := List.mem_cons_of_mem _ (List.mem_append_left _ (List.mem_of_getElem? (l := wsX8_open_o) (i := 2) rfl))
theorem hS_X8_next : yX8_next.cls ≠ "java/lang/invoke/MethodHandle" ∧ yX8_next.cls ≠ "java/lang/invoke/VarHandle" ∧ (parseMethodDescriptor yX8_next.desc).map (fun d => d.parameters.length) = some 1 := ⟨nm_X8.1, nm_X8.2, pd_8⟩
theorem hV_X8_next : yX8_next.cls = RX8 ∧ yX8_next.cls ≠ "java/lang/invoke/MethodHandle" ∧ yX8_next.cls ≠ "java/lang/invoke/VarHandle" ∧ (parseMethodDescriptor yX8_next.desc).map (fun d => d.parameters.length) = some 1 := ⟨rfl, hS_X8_next⟩
theorem fi_X8_next_X8 : ∀ w ∈ wsX80, w ∈ wsX8_next := fun _ h => List.mem_cons_of_mem _ (List.mem_append_right _ (List.mem_append_right _ (List.mem_append_right _ (List.mem_append_left _ h))))
theorem ow_X8_next_64 : Cond.constant RX8 64 (-1000001) ∈ wsX8_next := List.mem_cons_of_mem _ (List.mem_append_left _ (List.mem_of_getElem? (l := wsX8_next_o) (i := 0) rfl))
theorem ow_X8_next_25 : Cond.fieldLink RX8 25 "WrongWordModel" "now" "[I" ∈ wsX8_next := List.mem_cons_of_mem _ (List.mem_append_left _ (List.mem_of_getElem? (l := wsX8_next_o) (i := 1) rfl))
theorem ow_X8_next_50 : Cond.constant RX8 50 (-1000000) ∈ wsX8_next := List.mem_cons_of_mem _ (List.mem_append_left _ (List.mem_of_getElem? (l := wsX8_next_o) (i := 2) rfl))
theorem hS_X8_agreeing : yX8_agreeing.cls ≠ "java/lang/invoke/MethodHandle" ∧ yX8_agreeing.cls ≠ "java/lang/invoke/VarHandle" ∧ (parseMethodDescriptor yX8_agreeing.desc).map (fun d => d.parameters.length) = some 0 := ⟨nm_X8.1, nm_X8.2, pd_5⟩
theorem hV_X8_agreeing : yX8_agreeing.cls = RX8 ∧ yX8_agreeing.cls ≠ "java/lang/invoke/MethodHandle" ∧ yX8_agreeing.cls ≠ "java/lang/invoke/VarHandle" ∧ (parseMethodDescriptor yX8_agreeing.desc).map (fun d => d.parameters.length) = some 0 := ⟨rfl, hS_X8_agreeing⟩
theorem fi_X8_agreeing_X8 : ∀ w ∈ wsX80, w ∈ wsX8_agreeing := fun _ h => List.mem_cons_of_mem _ (List.mem_append_right _ (List.mem_append_right _ (List.mem_append_right _ (List.mem_append_left _ h))))
theorem ow_X8_agreeing_25 : Cond.fieldLink RX8 25 "WrongWordModel" "now" "[I" ∈ wsX8_agreeing := List.mem_cons_of_mem _ (List.mem_append_left _ (List.mem_of_getElem? (l := wsX8_agreeing_o) (i := 0) rfl))
theorem hS_X8_agree : yX8_agree.cls ≠ "java/lang/invoke/MethodHandle" ∧ yX8_agree.cls ≠ "java/lang/invoke/VarHandle" ∧ (parseMethodDescriptor yX8_agree.desc).map (fun d => d.parameters.length) = some 0 := ⟨nm_X8.1, nm_X8.2, pd_5⟩
theorem hV_X8_agree : yX8_agree.cls = RX8 ∧ yX8_agree.cls ≠ "java/lang/invoke/MethodHandle" ∧ yX8_agree.cls ≠ "java/lang/invoke/VarHandle" ∧ (parseMethodDescriptor yX8_agree.desc).map (fun d => d.parameters.length) = some 0 := ⟨rfl, hS_X8_agree⟩
theorem fi_X8_agree_X8 : ∀ w ∈ wsX80, w ∈ wsX8_agree := fun _ h => List.mem_cons_of_mem _ (List.mem_append_right _ (List.mem_append_right _ (List.mem_append_right _ (List.mem_append_left _ h))))
theorem ow_X8_agree_183 : Cond.constant RX8 183 (-1000002) ∈ wsX8_agree := List.mem_cons_of_mem _ (List.mem_append_left _ (List.mem_of_getElem? (l := wsX8_agree_o) (i := 0) rfl))
theorem ow_X8_agree_25 : Cond.fieldLink RX8 25 "WrongWordModel" "now" "[I" ∈ wsX8_agree := List.mem_cons_of_mem _ (List.mem_append_left _ (List.mem_of_getElem? (l := wsX8_agree_o) (i := 1) rfl))
theorem hS_X8_takenOf : yX8_takenOf.cls ≠ "java/lang/invoke/MethodHandle" ∧ yX8_takenOf.cls ≠ "java/lang/invoke/VarHandle" ∧ (parseMethodDescriptor yX8_takenOf.desc).map (fun d => d.parameters.length) = some 3 := ⟨nm_X8.1, nm_X8.2, pd_23⟩
theorem hV_X8_takenOf : yX8_takenOf.cls = RX8 ∧ yX8_takenOf.cls ≠ "java/lang/invoke/MethodHandle" ∧ yX8_takenOf.cls ≠ "java/lang/invoke/VarHandle" ∧ (parseMethodDescriptor yX8_takenOf.desc).map (fun d => d.parameters.length) = some 3 := ⟨rfl, hS_X8_takenOf⟩
theorem fi_X8_takenOf_X8 : ∀ w ∈ wsX80, w ∈ wsX8_takenOf := fun _ h => List.mem_cons_of_mem _ (List.mem_append_right _ (List.mem_append_right _ (List.mem_append_right _ (List.mem_append_left _ h))))
theorem ow_X8_takenOf_25 : Cond.fieldLink RX8 25 "WrongWordModel" "now" "[I" ∈ wsX8_takenOf := List.mem_cons_of_mem _ (List.mem_append_left _ (List.mem_of_getElem? (l := wsX8_takenOf_o) (i := 0) rfl))
theorem hS_X8_man : yX8_man.cls ≠ "java/lang/invoke/MethodHandle" ∧ yX8_man.cls ≠ "java/lang/invoke/VarHandle" ∧ (parseMethodDescriptor yX8_man.desc).map (fun d => d.parameters.length) = some 1 := ⟨nm_X8.1, nm_X8.2, pd_8⟩
theorem hV_X8_man : yX8_man.cls = RX8 ∧ yX8_man.cls ≠ "java/lang/invoke/MethodHandle" ∧ yX8_man.cls ≠ "java/lang/invoke/VarHandle" ∧ (parseMethodDescriptor yX8_man.desc).map (fun d => d.parameters.length) = some 1 := ⟨rfl, hS_X8_man⟩
theorem fi_X8_man_X8 : ∀ w ∈ wsX80, w ∈ wsX8_man := fun _ h => List.mem_cons_of_mem _ (List.mem_append_right _ (List.mem_append_right _ (List.mem_append_right _ (List.mem_append_right _ (List.mem_append_right _ (List.mem_append_right _ (List.mem_append_left _ h)))))))
theorem ow_X8_man_183 : Cond.constant RX8 183 (-1000002) ∈ wsX8_man := List.mem_cons_of_mem _ (List.mem_append_left _ (List.mem_of_getElem? (l := wsX8_man_o) (i := 0) rfl))
theorem ow_X8_man_64 : Cond.constant RX8 64 (-1000001) ∈ wsX8_man := List.mem_cons_of_mem _ (List.mem_append_left _ (List.mem_of_getElem? (l := wsX8_man_o) (i := 1) rfl))
theorem ow_X8_man_25 : Cond.fieldLink RX8 25 "WrongWordModel" "now" "[I" ∈ wsX8_man := List.mem_cons_of_mem _ (List.mem_append_left _ (List.mem_of_getElem? (l := wsX8_man_o) (i := 2) rfl))
theorem hS_X8_menFor : yX8_menFor.cls ≠ "java/lang/invoke/MethodHandle" ∧ yX8_menFor.cls ≠ "java/lang/invoke/VarHandle" ∧ (parseMethodDescriptor yX8_menFor.desc).map (fun d => d.parameters.length) = some 1 := ⟨nm_X8.1, nm_X8.2, pd_8⟩
theorem hV_X8_menFor : yX8_menFor.cls = RX8 ∧ yX8_menFor.cls ≠ "java/lang/invoke/MethodHandle" ∧ yX8_menFor.cls ≠ "java/lang/invoke/VarHandle" ∧ (parseMethodDescriptor yX8_menFor.desc).map (fun d => d.parameters.length) = some 1 := ⟨rfl, hS_X8_menFor⟩
theorem fi_X8_menFor_X8 : ∀ w ∈ wsX80, w ∈ wsX8_menFor := fun _ h => List.mem_cons_of_mem _ (List.mem_append_right _ (List.mem_append_right _ (List.mem_append_right _ (List.mem_append_left _ h))))
theorem ow_X8_menFor_50 : Cond.constant RX8 50 (-1000000) ∈ wsX8_menFor := List.mem_cons_of_mem _ (List.mem_append_left _ (List.mem_of_getElem? (l := wsX8_menFor_o) (i := 0) rfl))
theorem ow_X8_menFor_25 : Cond.fieldLink RX8 25 "WrongWordModel" "now" "[I" ∈ wsX8_menFor := List.mem_cons_of_mem _ (List.mem_append_left _ (List.mem_of_getElem? (l := wsX8_menFor_o) (i := 1) rfl))
theorem ow_X8_menFor_44 : Cond.fieldLink RX8 44 "WrongWordModel" "men" "[I" ∈ wsX8_menFor := List.mem_cons_of_mem _ (List.mem_append_left _ (List.mem_of_getElem? (l := wsX8_menFor_o) (i := 2) rfl))
theorem hS_X8_fewest : yX8_fewest.cls ≠ "java/lang/invoke/MethodHandle" ∧ yX8_fewest.cls ≠ "java/lang/invoke/VarHandle" ∧ (parseMethodDescriptor yX8_fewest.desc).map (fun d => d.parameters.length) = some 0 := ⟨nm_X8.1, nm_X8.2, pd_5⟩
theorem hV_X8_fewest : yX8_fewest.cls = RX8 ∧ yX8_fewest.cls ≠ "java/lang/invoke/MethodHandle" ∧ yX8_fewest.cls ≠ "java/lang/invoke/VarHandle" ∧ (parseMethodDescriptor yX8_fewest.desc).map (fun d => d.parameters.length) = some 0 := ⟨rfl, hS_X8_fewest⟩
theorem fi_X8_fewest_X8 : ∀ w ∈ wsX80, w ∈ wsX8_fewest := fun _ h => List.mem_cons_of_mem _ (List.mem_append_right _ (List.mem_append_right _ (List.mem_append_right _ (List.mem_append_right _ (List.mem_append_left _ h)))))
theorem ow_X8_fewest_183 : Cond.constant RX8 183 (-1000002) ∈ wsX8_fewest := List.mem_cons_of_mem _ (List.mem_append_left _ (List.mem_of_getElem? (l := wsX8_fewest_o) (i := 0) rfl))
theorem ow_X8_fewest_44 : Cond.fieldLink RX8 44 "WrongWordModel" "men" "[I" ∈ wsX8_fewest := List.mem_cons_of_mem _ (List.mem_append_left _ (List.mem_of_getElem? (l := wsX8_fewest_o) (i := 1) rfl))
theorem ow_X8_fewest_25 : Cond.fieldLink RX8 25 "WrongWordModel" "now" "[I" ∈ wsX8_fewest := List.mem_cons_of_mem _ (List.mem_append_left _ (List.mem_of_getElem? (l := wsX8_fewest_o) (i := 2) rfl))
theorem ow_X8_fewest_50 : Cond.constant RX8 50 (-1000000) ∈ wsX8_fewest := List.mem_cons_of_mem _ (List.mem_append_left _ (List.mem_of_getElem? (l := wsX8_fewest_o) (i := 11) rfl))
theorem hS_X8_march : yX8_march.cls ≠ "java/lang/invoke/MethodHandle" ∧ yX8_march.cls ≠ "java/lang/invoke/VarHandle" ∧ (parseMethodDescriptor yX8_march.desc).map (fun d => d.parameters.length) = some 4 := ⟨nm_X8.1, nm_X8.2, pd_11⟩
theorem hV_X8_march : yX8_march.cls = RX8 ∧ yX8_march.cls ≠ "java/lang/invoke/MethodHandle" ∧ yX8_march.cls ≠ "java/lang/invoke/VarHandle" ∧ (parseMethodDescriptor yX8_march.desc).map (fun d => d.parameters.length) = some 4 := ⟨rfl, hS_X8_march⟩
theorem fi_X8_march_X8 : ∀ w ∈ wsX80, w ∈ wsX8_march := fun _ h => List.mem_cons_of_mem _ (List.mem_append_right _ (List.mem_append_right _ (List.mem_append_right _ (List.mem_append_right _ (List.mem_append_right _ (List.mem_append_right _ (List.mem_append_right _ (List.mem_append_right _ (List.mem_append_right _ (List.mem_append_right _ (List.mem_append_left _ h)))))))))))
theorem ow_X8_march_183 : Cond.constant RX8 183 (-1000002) ∈ wsX8_march := List.mem_cons_of_mem _ (List.mem_append_left _ (List.mem_of_getElem? (l := wsX8_march_o) (i := 0) rfl))
theorem ow_X8_march_64 : Cond.constant RX8 64 (-1000001) ∈ wsX8_march := List.mem_cons_of_mem _ (List.mem_append_left _ (List.mem_of_getElem? (l := wsX8_march_o) (i := 1) rfl))
theorem ow_X8_march_50 : Cond.constant RX8 50 (-1000000) ∈ wsX8_march := List.mem_cons_of_mem _ (List.mem_append_left _ (List.mem_of_getElem? (l := wsX8_march_o) (i := 2) rfl))
theorem ow_X8_march_16 : Cond.fieldLink RX8 16 "WrongWordModel" "items" "[I" ∈ wsX8_march := List.mem_cons_of_mem _ (List.mem_append_left _ (List.mem_of_getElem? (l := wsX8_march_o) (i := 3) rfl))
theorem ow_X8_march_25 : Cond.fieldLink RX8 25 "WrongWordModel" "now" "[I" ∈ wsX8_march := List.mem_cons_of_mem _ (List.mem_append_left _ (List.mem_of_getElem? (l := wsX8_march_o) (i := 4) rfl))
theorem ow_X8_march_7 : Cond.fieldLink RX8 7 "WrongWordModel" "lane" "[I" ∈ wsX8_march := List.mem_cons_of_mem _ (List.mem_append_left _ (List.mem_of_getElem? (l := wsX8_march_o) (i := 5) rfl))
theorem ow_X8_march_51 : Cond.fieldLink RX8 51 "WrongWordModel" "status" "I" ∈ wsX8_march := List.mem_cons_of_mem _ (List.mem_append_left _ (List.mem_of_getElem? (l := wsX8_march_o) (i := 6) rfl))
theorem ow_X8_march_55 : Cond.constant RX8 55 (-1000010) ∈ wsX8_march := List.mem_cons_of_mem _ (List.mem_append_left _ (List.mem_of_getElem? (l := wsX8_march_o) (i := 7) rfl))
theorem ow_X8_march_13 : Cond.fieldLink RX8 13 "WrongWordModel" "many" "[I" ∈ wsX8_march := List.mem_cons_of_mem _ (List.mem_append_left _ (List.mem_of_getElem? (l := wsX8_march_o) (i := 8) rfl))
theorem hS_X8_cheap : yX8_cheap.cls ≠ "java/lang/invoke/MethodHandle" ∧ yX8_cheap.cls ≠ "java/lang/invoke/VarHandle" ∧ (parseMethodDescriptor yX8_cheap.desc).map (fun d => d.parameters.length) = some 3 := ⟨nm_X8.1, nm_X8.2, pd_23⟩
theorem hV_X8_cheap : yX8_cheap.cls = RX8 ∧ yX8_cheap.cls ≠ "java/lang/invoke/MethodHandle" ∧ yX8_cheap.cls ≠ "java/lang/invoke/VarHandle" ∧ (parseMethodDescriptor yX8_cheap.desc).map (fun d => d.parameters.length) = some 3 := ⟨rfl, hS_X8_cheap⟩
theorem fi_X8_cheap_X8 : ∀ w ∈ wsX80, w ∈ wsX8_cheap := fun _ h => List.mem_cons_of_mem _ (List.mem_append_right _ (List.mem_append_right _ (List.mem_append_right _ (List.mem_append_right _ (List.mem_append_right _ (List.mem_append_right _ (List.mem_append_right _ (List.mem_append_right _ (List.mem_append_left _ h)))))))))
theorem ow_X8_cheap_183 : Cond.constant RX8 183 (-1000002) ∈ wsX8_cheap := List.mem_cons_of_mem _ (List.mem_append_left _ (List.mem_of_getElem? (l := wsX8_cheap_o) (i := 0) rfl))
theorem ow_X8_cheap_64 : Cond.constant RX8 64 (-1000001) ∈ wsX8_cheap := List.mem_cons_of_mem _ (List.mem_append_left _ (List.mem_of_getElem? (l := wsX8_cheap_o) (i := 1) rfl))
theorem ow_X8_cheap_50 : Cond.constant RX8 50 (-1000000) ∈ wsX8_cheap := List.mem_cons_of_mem _ (List.mem_append_left _ (List.mem_of_getElem? (l := wsX8_cheap_o) (i := 2) rfl))
theorem ow_X8_cheap_25 : Cond.fieldLink RX8 25 "WrongWordModel" "now" "[I" ∈ wsX8_cheap := List.mem_cons_of_mem _ (List.mem_append_left _ (List.mem_of_getElem? (l := wsX8_cheap_o) (i := 3) rfl))
theorem hS_X8_near : yX8_near.cls ≠ "java/lang/invoke/MethodHandle" ∧ yX8_near.cls ≠ "java/lang/invoke/VarHandle" ∧ (parseMethodDescriptor yX8_near.desc).map (fun d => d.parameters.length) = some 2 := ⟨nm_X8.1, nm_X8.2, pd_10⟩
theorem hV_X8_near : yX8_near.cls = RX8 ∧ yX8_near.cls ≠ "java/lang/invoke/MethodHandle" ∧ yX8_near.cls ≠ "java/lang/invoke/VarHandle" ∧ (parseMethodDescriptor yX8_near.desc).map (fun d => d.parameters.length) = some 2 := ⟨rfl, hS_X8_near⟩
theorem fi_X8_near_X8 : ∀ w ∈ wsX80, w ∈ wsX8_near := fun _ h => List.mem_cons_of_mem _ (List.mem_append_right _ (List.mem_append_right _ (List.mem_append_right _ (List.mem_append_right _ (List.mem_append_left _ h)))))
theorem ow_X8_near_64 : Cond.constant RX8 64 (-1000001) ∈ wsX8_near := List.mem_cons_of_mem _ (List.mem_append_left _ (List.mem_of_getElem? (l := wsX8_near_o) (i := 0) rfl))
theorem ow_X8_near_50 : Cond.constant RX8 50 (-1000000) ∈ wsX8_near := List.mem_cons_of_mem _ (List.mem_append_left _ (List.mem_of_getElem? (l := wsX8_near_o) (i := 1) rfl))
theorem ow_X8_near_25 : Cond.fieldLink RX8 25 "WrongWordModel" "now" "[I" ∈ wsX8_near := List.mem_cons_of_mem _ (List.mem_append_left _ (List.mem_of_getElem? (l := wsX8_near_o) (i := 2) rfl))
theorem hS_X8_rules : yX8_rules.cls ≠ "java/lang/invoke/MethodHandle" ∧ yX8_rules.cls ≠ "java/lang/invoke/VarHandle" ∧ (parseMethodDescriptor yX8_rules.desc).map (fun d => d.parameters.length) = some 4 := ⟨nm_X8.1, nm_X8.2, pd_11⟩
theorem hV_X8_rules : yX8_rules.cls = RX8 ∧ yX8_rules.cls ≠ "java/lang/invoke/MethodHandle" ∧ yX8_rules.cls ≠ "java/lang/invoke/VarHandle" ∧ (parseMethodDescriptor yX8_rules.desc).map (fun d => d.parameters.length) = some 4 := ⟨rfl, hS_X8_rules⟩
theorem fi_X8_rules_X8 : ∀ w ∈ wsX80, w ∈ wsX8_rules := fun _ h => List.mem_cons_of_mem _ (List.mem_append_right _ (List.mem_append_right _ (List.mem_append_right _ (List.mem_append_right _ (List.mem_append_right _ (List.mem_append_right _ (List.mem_append_right _ (List.mem_append_right _ (List.mem_append_right _ (List.mem_append_right _ (List.mem_append_left _ h)))))))))))
theorem ow_X8_rules_183 : Cond.constant RX8 183 (-1000002) ∈ wsX8_rules := List.mem_cons_of_mem _ (List.mem_append_left _ (List.mem_of_getElem? (l := wsX8_rules_o) (i := 0) rfl))
theorem ow_X8_rules_64 : Cond.constant RX8 64 (-1000001) ∈ wsX8_rules := List.mem_cons_of_mem _ (List.mem_append_left _ (List.mem_of_getElem? (l := wsX8_rules_o) (i := 1) rfl))
theorem ow_X8_rules_25 : Cond.fieldLink RX8 25 "WrongWordModel" "now" "[I" ∈ wsX8_rules := List.mem_cons_of_mem _ (List.mem_append_left _ (List.mem_of_getElem? (l := wsX8_rules_o) (i := 2) rfl))
theorem ow_X8_rules_31 : Cond.fieldLink RX8 31 "WrongWordModel" "tried" "[I" ∈ wsX8_rules := List.mem_cons_of_mem _ (List.mem_append_left _ (List.mem_of_getElem? (l := wsX8_rules_o) (i := 3) rfl))
theorem ow_X8_rules_16 : Cond.fieldLink RX8 16 "WrongWordModel" "items" "[I" ∈ wsX8_rules := List.mem_cons_of_mem _ (List.mem_append_left _ (List.mem_of_getElem? (l := wsX8_rules_o) (i := 4) rfl))
theorem ow_X8_rules_7 : Cond.fieldLink RX8 7 "WrongWordModel" "lane" "[I" ∈ wsX8_rules := List.mem_cons_of_mem _ (List.mem_append_left _ (List.mem_of_getElem? (l := wsX8_rules_o) (i := 5) rfl))
theorem ow_X8_rules_50 : Cond.constant RX8 50 (-1000000) ∈ wsX8_rules := List.mem_cons_of_mem _ (List.mem_append_left _ (List.mem_of_getElem? (l := wsX8_rules_o) (i := 6) rfl))
theorem ow_X8_rules_51 : Cond.fieldLink RX8 51 "WrongWordModel" "status" "I" ∈ wsX8_rules := List.mem_cons_of_mem _ (List.mem_append_left _ (List.mem_of_getElem? (l := wsX8_rules_o) (i := 7) rfl))
theorem ow_X8_rules_55 : Cond.constant RX8 55 (-1000010) ∈ wsX8_rules := List.mem_cons_of_mem _ (List.mem_append_left _ (List.mem_of_getElem? (l := wsX8_rules_o) (i := 8) rfl))
theorem ow_X8_rules_13 : Cond.fieldLink RX8 13 "WrongWordModel" "many" "[I" ∈ wsX8_rules := List.mem_cons_of_mem _ (List.mem_append_left _ (List.mem_of_getElem? (l := wsX8_rules_o) (i := 9) rfl))
theorem hS_X8_takesSo : yX8_takesSo.cls ≠ "java/lang/invoke/MethodHandle" ∧ yX8_takesSo.cls ≠ "java/lang/invoke/VarHandle" ∧ (parseMethodDescriptor yX8_takesSo.desc).map (fun d => d.parameters.length) = some 3 := ⟨nm_X8.1, nm_X8.2, pd_14⟩
theorem hV_X8_takesSo : yX8_takesSo.cls = RX8 ∧ yX8_takesSo.cls ≠ "java/lang/invoke/MethodHandle" ∧ yX8_takesSo.cls ≠ "java/lang/invoke/VarHandle" ∧ (parseMethodDescriptor yX8_takesSo.desc).map (fun d => d.parameters.length) = some 3 := ⟨rfl, hS_X8_takesSo⟩
theorem fi_X8_takesSo_X8 : ∀ w ∈ wsX80, w ∈ wsX8_takesSo := fun _ h => List.mem_cons_of_mem _ (List.mem_append_right _ (List.mem_append_right _ (List.mem_append_left _ h)))
theorem ow_X8_takesSo_25 : Cond.fieldLink RX8 25 "WrongWordModel" "now" "[I" ∈ wsX8_takesSo := List.mem_cons_of_mem _ (List.mem_append_left _ (List.mem_of_getElem? (l := wsX8_takesSo_o) (i := 0) rfl))
theorem ow_X8_takesSo_16 : Cond.fieldLink RX8 16 "WrongWordModel" "items" "[I" ∈ wsX8_takesSo := List.mem_cons_of_mem _ (List.mem_append_left _ (List.mem_of_getElem? (l := wsX8_takesSo_o) (i := 1) rfl))
theorem hS_X8_fits : yX8_fits.cls ≠ "java/lang/invoke/MethodHandle" ∧ yX8_fits.cls ≠ "java/lang/invoke/VarHandle" ∧ (parseMethodDescriptor yX8_fits.desc).map (fun d => d.parameters.length) = some 4 := ⟨nm_X8.1, nm_X8.2, pd_11⟩
theorem hV_X8_fits : yX8_fits.cls = RX8 ∧ yX8_fits.cls ≠ "java/lang/invoke/MethodHandle" ∧ yX8_fits.cls ≠ "java/lang/invoke/VarHandle" ∧ (parseMethodDescriptor yX8_fits.desc).map (fun d => d.parameters.length) = some 4 := ⟨rfl, hS_X8_fits⟩
theorem fi_X8_fits_X8 : ∀ w ∈ wsX80, w ∈ wsX8_fits := fun _ h => List.mem_cons_of_mem _ (List.mem_append_right _ (List.mem_append_right _ (List.mem_append_right _ (List.mem_append_right _ (List.mem_append_right _ (List.mem_append_right _ (List.mem_append_right _ (List.mem_append_right _ (List.mem_append_right _ (List.mem_append_right _ (List.mem_append_right _ (List.mem_append_left _ h))))))))))))
theorem ow_X8_fits_64 : Cond.constant RX8 64 (-1000001) ∈ wsX8_fits := List.mem_cons_of_mem _ (List.mem_append_left _ (List.mem_of_getElem? (l := wsX8_fits_o) (i := 0) rfl))
theorem ow_X8_fits_25 : Cond.fieldLink RX8 25 "WrongWordModel" "now" "[I" ∈ wsX8_fits := List.mem_cons_of_mem _ (List.mem_append_left _ (List.mem_of_getElem? (l := wsX8_fits_o) (i := 1) rfl))
theorem ow_X8_fits_7 : Cond.fieldLink RX8 7 "WrongWordModel" "lane" "[I" ∈ wsX8_fits := List.mem_cons_of_mem _ (List.mem_append_left _ (List.mem_of_getElem? (l := wsX8_fits_o) (i := 2) rfl))
theorem ow_X8_fits_50 : Cond.constant RX8 50 (-1000000) ∈ wsX8_fits := List.mem_cons_of_mem _ (List.mem_append_left _ (List.mem_of_getElem? (l := wsX8_fits_o) (i := 3) rfl))
theorem ow_X8_fits_51 : Cond.fieldLink RX8 51 "WrongWordModel" "status" "I" ∈ wsX8_fits := List.mem_cons_of_mem _ (List.mem_append_left _ (List.mem_of_getElem? (l := wsX8_fits_o) (i := 4) rfl))
theorem ow_X8_fits_55 : Cond.constant RX8 55 (-1000010) ∈ wsX8_fits := List.mem_cons_of_mem _ (List.mem_append_left _ (List.mem_of_getElem? (l := wsX8_fits_o) (i := 5) rfl))
theorem ow_X8_fits_13 : Cond.fieldLink RX8 13 "WrongWordModel" "many" "[I" ∈ wsX8_fits := List.mem_cons_of_mem _ (List.mem_append_left _ (List.mem_of_getElem? (l := wsX8_fits_o) (i := 6) rfl))
theorem ow_X8_fits_16 : Cond.fieldLink RX8 16 "WrongWordModel" "items" "[I" ∈ wsX8_fits := List.mem_cons_of_mem _ (List.mem_append_left _ (List.mem_of_getElem? (l := wsX8_fits_o) (i := 7) rfl))
theorem hS_X8_sure : yX8_sure.cls ≠ "java/lang/invoke/MethodHandle" ∧ yX8_sure.cls ≠ "java/lang/invoke/VarHandle" ∧ (parseMethodDescriptor yX8_sure.desc).map (fun d => d.parameters.length) = some 4 := ⟨nm_X8.1, nm_X8.2, pd_11⟩
theorem hV_X8_sure : yX8_sure.cls = RX8 ∧ yX8_sure.cls ≠ "java/lang/invoke/MethodHandle" ∧ yX8_sure.cls ≠ "java/lang/invoke/VarHandle" ∧ (parseMethodDescriptor yX8_sure.desc).map (fun d => d.parameters.length) = some 4 := ⟨rfl, hS_X8_sure⟩
theorem fi_X8_sure_X8 : ∀ w ∈ wsX80, w ∈ wsX8_sure := fun _ h => List.mem_cons_of_mem _ (List.mem_append_right _ (List.mem_append_right _ (List.mem_append_right _ (List.mem_append_right _ (List.mem_append_right _ (List.mem_append_right _ (List.mem_append_right _ (List.mem_append_left _ h))))))))
theorem ow_X8_sure_64 : Cond.constant RX8 64 (-1000001) ∈ wsX8_sure := List.mem_cons_of_mem _ (List.mem_append_left _ (List.mem_of_getElem? (l := wsX8_sure_o) (i := 0) rfl))
theorem ow_X8_sure_25 : Cond.fieldLink RX8 25 "WrongWordModel" "now" "[I" ∈ wsX8_sure := List.mem_cons_of_mem _ (List.mem_append_left _ (List.mem_of_getElem? (l := wsX8_sure_o) (i := 1) rfl))
theorem hS_X8_drawn : yX8_drawn.cls ≠ "java/lang/invoke/MethodHandle" ∧ yX8_drawn.cls ≠ "java/lang/invoke/VarHandle" ∧ (parseMethodDescriptor yX8_drawn.desc).map (fun d => d.parameters.length) = some 3 := ⟨nm_X8.1, nm_X8.2, pd_23⟩
theorem hV_X8_drawn : yX8_drawn.cls = RX8 ∧ yX8_drawn.cls ≠ "java/lang/invoke/MethodHandle" ∧ yX8_drawn.cls ≠ "java/lang/invoke/VarHandle" ∧ (parseMethodDescriptor yX8_drawn.desc).map (fun d => d.parameters.length) = some 3 := ⟨rfl, hS_X8_drawn⟩
theorem fi_X8_drawn_X8 : ∀ w ∈ wsX80, w ∈ wsX8_drawn := fun _ h => List.mem_cons_of_mem _ (List.mem_append_right _ (List.mem_append_right _ (List.mem_append_right _ (List.mem_append_right _ (List.mem_append_right _ (List.mem_append_left _ h))))))
theorem ow_X8_drawn_183 : Cond.constant RX8 183 (-1000002) ∈ wsX8_drawn := List.mem_cons_of_mem _ (List.mem_append_left _ (List.mem_of_getElem? (l := wsX8_drawn_o) (i := 0) rfl))
theorem ow_X8_drawn_230 : Cond.constant RX8 230 (999999) ∈ wsX8_drawn := List.mem_cons_of_mem _ (List.mem_append_left _ (List.mem_of_getElem? (l := wsX8_drawn_o) (i := 1) rfl))
theorem ow_X8_drawn_64 : Cond.constant RX8 64 (-1000001) ∈ wsX8_drawn := List.mem_cons_of_mem _ (List.mem_append_left _ (List.mem_of_getElem? (l := wsX8_drawn_o) (i := 2) rfl))
theorem ow_X8_drawn_25 : Cond.fieldLink RX8 25 "WrongWordModel" "now" "[I" ∈ wsX8_drawn := List.mem_cons_of_mem _ (List.mem_append_left _ (List.mem_of_getElem? (l := wsX8_drawn_o) (i := 5) rfl))
theorem hS_X8_image : yX8_image.cls ≠ "java/lang/invoke/MethodHandle" ∧ yX8_image.cls ≠ "java/lang/invoke/VarHandle" ∧ (parseMethodDescriptor yX8_image.desc).map (fun d => d.parameters.length) = some 1 := ⟨nm_X8.1, nm_X8.2, pd_8⟩
theorem hV_X8_image : yX8_image.cls = RX8 ∧ yX8_image.cls ≠ "java/lang/invoke/MethodHandle" ∧ yX8_image.cls ≠ "java/lang/invoke/VarHandle" ∧ (parseMethodDescriptor yX8_image.desc).map (fun d => d.parameters.length) = some 1 := ⟨rfl, hS_X8_image⟩
theorem fi_X8_image_X8 : ∀ w ∈ wsX80, w ∈ wsX8_image := fun _ h => List.mem_cons_of_mem _ (List.mem_append_right _ (List.mem_append_right _ (List.mem_append_right _ (List.mem_append_right _ (List.mem_append_left _ h)))))
theorem ow_X8_image_64 : Cond.constant RX8 64 (-1000001) ∈ wsX8_image := List.mem_cons_of_mem _ (List.mem_append_left _ (List.mem_of_getElem? (l := wsX8_image_o) (i := 0) rfl))
theorem ow_X8_image_183 : Cond.constant RX8 183 (-1000002) ∈ wsX8_image := List.mem_cons_of_mem _ (List.mem_append_left _ (List.mem_of_getElem? (l := wsX8_image_o) (i := 1) rfl))
theorem ow_X8_image_25 : Cond.fieldLink RX8 25 "WrongWordModel" "now" "[I" ∈ wsX8_image := List.mem_cons_of_mem _ (List.mem_append_left _ (List.mem_of_getElem? (l := wsX8_image_o) (i := 2) rfl))
theorem ow_X8_image_37 : Cond.fieldLink RX8 37 "WrongWordModel" "images" "[I" ∈ wsX8_image := List.mem_cons_of_mem _ (List.mem_append_left _ (List.mem_of_getElem? (l := wsX8_image_o) (i := 3) rfl))
theorem ow_X8_image_40 : Cond.fieldLink RX8 40 "WrongWordModel" "kept" "[Z" ∈ wsX8_image := List.mem_cons_of_mem _ (List.mem_append_left _ (List.mem_of_getElem? (l := wsX8_image_o) (i := 4) rfl))
theorem hS_X8_restore : yX8_restore.cls ≠ "java/lang/invoke/MethodHandle" ∧ yX8_restore.cls ≠ "java/lang/invoke/VarHandle" ∧ (parseMethodDescriptor yX8_restore.desc).map (fun d => d.parameters.length) = some 1 := ⟨nm_X8.1, nm_X8.2, pd_8⟩
theorem hV_X8_restore : yX8_restore.cls = RX8 ∧ yX8_restore.cls ≠ "java/lang/invoke/MethodHandle" ∧ yX8_restore.cls ≠ "java/lang/invoke/VarHandle" ∧ (parseMethodDescriptor yX8_restore.desc).map (fun d => d.parameters.length) = some 1 := ⟨rfl, hS_X8_restore⟩
theorem fi_X8_restore_X8 : ∀ w ∈ wsX80, w ∈ wsX8_restore := fun _ h => List.mem_cons_of_mem _ (List.mem_append_right _ (List.mem_append_right _ (List.mem_append_right _ (List.mem_append_left _ h))))
theorem ow_X8_restore_64 : Cond.constant RX8 64 (-1000001) ∈ wsX8_restore := List.mem_cons_of_mem _ (List.mem_append_left _ (List.mem_of_getElem? (l := wsX8_restore_o) (i := 0) rfl))
theorem ow_X8_restore_40 : Cond.fieldLink RX8 40 "WrongWordModel" "kept" "[Z" ∈ wsX8_restore := List.mem_cons_of_mem _ (List.mem_append_left _ (List.mem_of_getElem? (l := wsX8_restore_o) (i := 1) rfl))
theorem ow_X8_restore_183 : Cond.constant RX8 183 (-1000002) ∈ wsX8_restore := List.mem_cons_of_mem _ (List.mem_append_left _ (List.mem_of_getElem? (l := wsX8_restore_o) (i := 2) rfl))
theorem ow_X8_restore_37 : Cond.fieldLink RX8 37 "WrongWordModel" "images" "[I" ∈ wsX8_restore := List.mem_cons_of_mem _ (List.mem_append_left _ (List.mem_of_getElem? (l := wsX8_restore_o) (i := 3) rfl))
theorem ow_X8_restore_25 : Cond.fieldLink RX8 25 "WrongWordModel" "now" "[I" ∈ wsX8_restore := List.mem_cons_of_mem _ (List.mem_append_left _ (List.mem_of_getElem? (l := wsX8_restore_o) (i := 4) rfl))
theorem ow_X8_restore_149 : Cond.fieldLink RX8 149 "WrongWordModel" "acts" "I" ∈ wsX8_restore := List.mem_cons_of_mem _ (List.mem_append_left _ (List.mem_of_getElem? (l := wsX8_restore_o) (i := 5) rfl))
theorem hS_X8_kind : yX8_kind.cls ≠ "java/lang/invoke/MethodHandle" ∧ yX8_kind.cls ≠ "java/lang/invoke/VarHandle" ∧ (parseMethodDescriptor yX8_kind.desc).map (fun d => d.parameters.length) = some 1 := ⟨nm_X8.1, nm_X8.2, pd_8⟩
theorem hV_X8_kind : yX8_kind.cls = RX8 ∧ yX8_kind.cls ≠ "java/lang/invoke/MethodHandle" ∧ yX8_kind.cls ≠ "java/lang/invoke/VarHandle" ∧ (parseMethodDescriptor yX8_kind.desc).map (fun d => d.parameters.length) = some 1 := ⟨rfl, hS_X8_kind⟩
theorem fi_X8_kind_X8 : ∀ w ∈ wsX80, w ∈ wsX8_kind := fun _ h => List.mem_cons_of_mem _ (List.mem_append_right _ (List.mem_append_right _ (List.mem_append_right _ (List.mem_append_left _ h))))
theorem ow_X8_kind_64 : Cond.constant RX8 64 (-1000001) ∈ wsX8_kind := List.mem_cons_of_mem _ (List.mem_append_left _ (List.mem_of_getElem? (l := wsX8_kind_o) (i := 0) rfl))
theorem ow_X8_kind_25 : Cond.fieldLink RX8 25 "WrongWordModel" "now" "[I" ∈ wsX8_kind := List.mem_cons_of_mem _ (List.mem_append_left _ (List.mem_of_getElem? (l := wsX8_kind_o) (i := 1) rfl))
theorem hS_X8_as : yX8_as.cls ≠ "java/lang/invoke/MethodHandle" ∧ yX8_as.cls ≠ "java/lang/invoke/VarHandle" ∧ (parseMethodDescriptor yX8_as.desc).map (fun d => d.parameters.length) = some 2 := ⟨nm_X8.1, nm_X8.2, pd_10⟩
theorem hV_X8_as : yX8_as.cls = RX8 ∧ yX8_as.cls ≠ "java/lang/invoke/MethodHandle" ∧ yX8_as.cls ≠ "java/lang/invoke/VarHandle" ∧ (parseMethodDescriptor yX8_as.desc).map (fun d => d.parameters.length) = some 2 := ⟨rfl, hS_X8_as⟩
theorem fi_X8_as_X8 : ∀ w ∈ wsX80, w ∈ wsX8_as := fun _ h => List.mem_cons_of_mem _ (List.mem_append_right _ (List.mem_append_right _ (List.mem_append_right _ (List.mem_append_right _ (List.mem_append_right _ (List.mem_append_right _ (List.mem_append_left _ h)))))))
theorem ow_X8_as_64 : Cond.constant RX8 64 (-1000001) ∈ wsX8_as := List.mem_cons_of_mem _ (List.mem_append_left _ (List.mem_of_getElem? (l := wsX8_as_o) (i := 0) rfl))
theorem ow_X8_as_25 : Cond.fieldLink RX8 25 "WrongWordModel" "now" "[I" ∈ wsX8_as := List.mem_cons_of_mem _ (List.mem_append_left _ (List.mem_of_getElem? (l := wsX8_as_o) (i := 1) rfl))
theorem ow_X8_as_51 : Cond.fieldLink RX8 51 "WrongWordModel" "status" "I" ∈ wsX8_as := List.mem_cons_of_mem _ (List.mem_append_left _ (List.mem_of_getElem? (l := wsX8_as_o) (i := 2) rfl))
theorem ow_X8_as_55 : Cond.constant RX8 55 (-1000010) ∈ wsX8_as := List.mem_cons_of_mem _ (List.mem_append_left _ (List.mem_of_getElem? (l := wsX8_as_o) (i := 3) rfl))
theorem hS_X8_begins : yX8_begins.cls ≠ "java/lang/invoke/MethodHandle" ∧ yX8_begins.cls ≠ "java/lang/invoke/VarHandle" ∧ (parseMethodDescriptor yX8_begins.desc).map (fun d => d.parameters.length) = some 1 := ⟨nm_X8.1, nm_X8.2, pd_6⟩
theorem hV_X8_begins : yX8_begins.cls = RX8 ∧ yX8_begins.cls ≠ "java/lang/invoke/MethodHandle" ∧ yX8_begins.cls ≠ "java/lang/invoke/VarHandle" ∧ (parseMethodDescriptor yX8_begins.desc).map (fun d => d.parameters.length) = some 1 := ⟨rfl, hS_X8_begins⟩
theorem fi_X8_begins_X8 : ∀ w ∈ wsX80, w ∈ wsX8_begins := fun _ h => List.mem_cons_of_mem _ (List.mem_append_right _ (List.mem_append_left _ h))
theorem ow_X8_begins_237 : Cond.fieldLink RX8 237 "WrongWordModel" "traced" "I" ∈ wsX8_begins := List.mem_cons_of_mem _ (List.mem_append_left _ (List.mem_of_getElem? (l := wsX8_begins_o) (i := 0) rfl))
theorem ow_X8_begins_47 : Cond.fieldLink RX8 47 "WrongWordModel" "trace" "[I" ∈ wsX8_begins := List.mem_cons_of_mem _ (List.mem_append_left _ (List.mem_of_getElem? (l := wsX8_begins_o) (i := 1) rfl))
theorem hS_X8_keenMark : yX8_keenMark.cls ≠ "java/lang/invoke/MethodHandle" ∧ yX8_keenMark.cls ≠ "java/lang/invoke/VarHandle" ∧ (parseMethodDescriptor yX8_keenMark.desc).map (fun d => d.parameters.length) = some 1 := ⟨nm_X8.1, nm_X8.2, pd_8⟩
theorem hV_X8_keenMark : yX8_keenMark.cls = RX8 ∧ yX8_keenMark.cls ≠ "java/lang/invoke/MethodHandle" ∧ yX8_keenMark.cls ≠ "java/lang/invoke/VarHandle" ∧ (parseMethodDescriptor yX8_keenMark.desc).map (fun d => d.parameters.length) = some 1 := ⟨rfl, hS_X8_keenMark⟩
theorem fi_X8_keenMark_X8 : ∀ w ∈ wsX80, w ∈ wsX8_keenMark := fun _ h => List.mem_cons_of_mem _ (List.mem_append_right _ (List.mem_append_right _ (List.mem_append_right _ (List.mem_append_left _ h))))
theorem ow_X8_keenMark_25 : Cond.fieldLink RX8 25 "WrongWordModel" "now" "[I" ∈ wsX8_keenMark := List.mem_cons_of_mem _ (List.mem_append_left _ (List.mem_of_getElem? (l := wsX8_keenMark_o) (i := 0) rfl))
theorem ow_X8_keenMark_237 : Cond.fieldLink RX8 237 "WrongWordModel" "traced" "I" ∈ wsX8_keenMark := List.mem_cons_of_mem _ (List.mem_append_left _ (List.mem_of_getElem? (l := wsX8_keenMark_o) (i := 1) rfl))
theorem ow_X8_keenMark_47 : Cond.fieldLink RX8 47 "WrongWordModel" "trace" "[I" ∈ wsX8_keenMark := List.mem_cons_of_mem _ (List.mem_append_left _ (List.mem_of_getElem? (l := wsX8_keenMark_o) (i := 2) rfl))
theorem hS_X8_deafSize : yX8_deafSize.cls ≠ "java/lang/invoke/MethodHandle" ∧ yX8_deafSize.cls ≠ "java/lang/invoke/VarHandle" ∧ (parseMethodDescriptor yX8_deafSize.desc).map (fun d => d.parameters.length) = some 1 := ⟨nm_X8.1, nm_X8.2, pd_8⟩
theorem hV_X8_deafSize : yX8_deafSize.cls = RX8 ∧ yX8_deafSize.cls ≠ "java/lang/invoke/MethodHandle" ∧ yX8_deafSize.cls ≠ "java/lang/invoke/VarHandle" ∧ (parseMethodDescriptor yX8_deafSize.desc).map (fun d => d.parameters.length) = some 1 := ⟨rfl, hS_X8_deafSize⟩
theorem fi_X8_deafSize_X8 : ∀ w ∈ wsX80, w ∈ wsX8_deafSize := fun _ h => List.mem_cons_of_mem _ (List.mem_append_right _ (List.mem_append_right _ (List.mem_append_right _ (List.mem_append_left _ h))))
theorem ow_X8_deafSize_25 : Cond.fieldLink RX8 25 "WrongWordModel" "now" "[I" ∈ wsX8_deafSize := List.mem_cons_of_mem _ (List.mem_append_left _ (List.mem_of_getElem? (l := wsX8_deafSize_o) (i := 0) rfl))
theorem ow_X8_deafSize_237 : Cond.fieldLink RX8 237 "WrongWordModel" "traced" "I" ∈ wsX8_deafSize := List.mem_cons_of_mem _ (List.mem_append_left _ (List.mem_of_getElem? (l := wsX8_deafSize_o) (i := 1) rfl))
theorem ow_X8_deafSize_47 : Cond.fieldLink RX8 47 "WrongWordModel" "trace" "[I" ∈ wsX8_deafSize := List.mem_cons_of_mem _ (List.mem_append_left _ (List.mem_of_getElem? (l := wsX8_deafSize_o) (i := 2) rfl))
theorem hS_X8_keenSize : yX8_keenSize.cls ≠ "java/lang/invoke/MethodHandle" ∧ yX8_keenSize.cls ≠ "java/lang/invoke/VarHandle" ∧ (parseMethodDescriptor yX8_keenSize.desc).map (fun d => d.parameters.length) = some 1 := ⟨nm_X8.1, nm_X8.2, pd_8⟩
theorem hV_X8_keenSize : yX8_keenSize.cls = RX8 ∧ yX8_keenSize.cls ≠ "java/lang/invoke/MethodHandle" ∧ yX8_keenSize.cls ≠ "java/lang/invoke/VarHandle" ∧ (parseMethodDescriptor yX8_keenSize.desc).map (fun d => d.parameters.length) = some 1 := ⟨rfl, hS_X8_keenSize⟩
theorem fi_X8_keenSize_X8 : ∀ w ∈ wsX80, w ∈ wsX8_keenSize := fun _ h => List.mem_cons_of_mem _ (List.mem_append_right _ (List.mem_append_right _ (List.mem_append_right _ (List.mem_append_right _ (List.mem_append_left _ h)))))
theorem ow_X8_keenSize_25 : Cond.fieldLink RX8 25 "WrongWordModel" "now" "[I" ∈ wsX8_keenSize := List.mem_cons_of_mem _ (List.mem_append_left _ (List.mem_of_getElem? (l := wsX8_keenSize_o) (i := 0) rfl))
theorem ow_X8_keenSize_237 : Cond.fieldLink RX8 237 "WrongWordModel" "traced" "I" ∈ wsX8_keenSize := List.mem_cons_of_mem _ (List.mem_append_left _ (List.mem_of_getElem? (l := wsX8_keenSize_o) (i := 1) rfl))
theorem ow_X8_keenSize_47 : Cond.fieldLink RX8 47 "WrongWordModel" "trace" "[I" ∈ wsX8_keenSize := List.mem_cons_of_mem _ (List.mem_append_left _ (List.mem_of_getElem? (l := wsX8_keenSize_o) (i := 2) rfl))
theorem hS_X8_deafMark : yX8_deafMark.cls ≠ "java/lang/invoke/MethodHandle" ∧ yX8_deafMark.cls ≠ "java/lang/invoke/VarHandle" ∧ (parseMethodDescriptor yX8_deafMark.desc).map (fun d => d.parameters.length) = some 1 := ⟨nm_X8.1, nm_X8.2, pd_8⟩
theorem hV_X8_deafMark : yX8_deafMark.cls = RX8 ∧ yX8_deafMark.cls ≠ "java/lang/invoke/MethodHandle" ∧ yX8_deafMark.cls ≠ "java/lang/invoke/VarHandle" ∧ (parseMethodDescriptor yX8_deafMark.desc).map (fun d => d.parameters.length) = some 1 := ⟨rfl, hS_X8_deafMark⟩
theorem fi_X8_deafMark_X8 : ∀ w ∈ wsX80, w ∈ wsX8_deafMark := fun _ h => List.mem_cons_of_mem _ (List.mem_append_right _ (List.mem_append_right _ (List.mem_append_right _ (List.mem_append_left _ h))))
theorem ow_X8_deafMark_237 : Cond.fieldLink RX8 237 "WrongWordModel" "traced" "I" ∈ wsX8_deafMark := List.mem_cons_of_mem _ (List.mem_append_left _ (List.mem_of_getElem? (l := wsX8_deafMark_o) (i := 0) rfl))
theorem ow_X8_deafMark_47 : Cond.fieldLink RX8 47 "WrongWordModel" "trace" "[I" ∈ wsX8_deafMark := List.mem_cons_of_mem _ (List.mem_append_left _ (List.mem_of_getElem? (l := wsX8_deafMark_o) (i := 1) rfl))
theorem ow_X8_deafMark_25 : Cond.fieldLink RX8 25 "WrongWordModel" "now" "[I" ∈ wsX8_deafMark := List.mem_cons_of_mem _ (List.mem_append_left _ (List.mem_of_getElem? (l := wsX8_deafMark_o) (i := 2) rfl))
theorem hS_X8_ask : yX8_ask.cls ≠ "java/lang/invoke/MethodHandle" ∧ yX8_ask.cls ≠ "java/lang/invoke/VarHandle" ∧ (parseMethodDescriptor yX8_ask.desc).map (fun d => d.parameters.length) = some 2 := ⟨nm_X8.1, nm_X8.2, pd_10⟩
theorem hV_X8_ask : yX8_ask.cls = RX8 ∧ yX8_ask.cls ≠ "java/lang/invoke/MethodHandle" ∧ yX8_ask.cls ≠ "java/lang/invoke/VarHandle" ∧ (parseMethodDescriptor yX8_ask.desc).map (fun d => d.parameters.length) = some 2 := ⟨rfl, hS_X8_ask⟩
theorem fi_X8_ask_X8 : ∀ w ∈ wsX80, w ∈ wsX8_ask := fun _ h => List.mem_cons_of_mem _ (List.mem_append_right _ (List.mem_append_right _ (List.mem_append_right _ (List.mem_append_right _ (List.mem_append_right _ (List.mem_append_right _ (List.mem_append_right _ (List.mem_append_right _ (List.mem_append_left _ h)))))))))
theorem ow_X8_ask_64 : Cond.constant RX8 64 (-1000001) ∈ wsX8_ask := List.mem_cons_of_mem _ (List.mem_append_left _ (List.mem_of_getElem? (l := wsX8_ask_o) (i := 0) rfl))
theorem ow_X8_ask_237 : Cond.fieldLink RX8 237 "WrongWordModel" "traced" "I" ∈ wsX8_ask := List.mem_cons_of_mem _ (List.mem_append_left _ (List.mem_of_getElem? (l := wsX8_ask_o) (i := 1) rfl))
theorem ow_X8_ask_25 : Cond.fieldLink RX8 25 "WrongWordModel" "now" "[I" ∈ wsX8_ask := List.mem_cons_of_mem _ (List.mem_append_left _ (List.mem_of_getElem? (l := wsX8_ask_o) (i := 2) rfl))
theorem ow_X8_ask_47 : Cond.fieldLink RX8 47 "WrongWordModel" "trace" "[I" ∈ wsX8_ask := List.mem_cons_of_mem _ (List.mem_append_left _ (List.mem_of_getElem? (l := wsX8_ask_o) (i := 5) rfl))
theorem hS_X8_trace : yX8_trace.cls ≠ "java/lang/invoke/MethodHandle" ∧ yX8_trace.cls ≠ "java/lang/invoke/VarHandle" ∧ (parseMethodDescriptor yX8_trace.desc).map (fun d => d.parameters.length) = some 1 := ⟨nm_X8.1, nm_X8.2, pd_8⟩
theorem hV_X8_trace : yX8_trace.cls = RX8 ∧ yX8_trace.cls ≠ "java/lang/invoke/MethodHandle" ∧ yX8_trace.cls ≠ "java/lang/invoke/VarHandle" ∧ (parseMethodDescriptor yX8_trace.desc).map (fun d => d.parameters.length) = some 1 := ⟨rfl, hS_X8_trace⟩
theorem fi_X8_trace_X8 : ∀ w ∈ wsX80, w ∈ wsX8_trace := fun _ h => List.mem_cons_of_mem _ (List.mem_append_right _ (List.mem_append_right _ (List.mem_append_left _ h)))
theorem ow_X8_trace_237 : Cond.fieldLink RX8 237 "WrongWordModel" "traced" "I" ∈ wsX8_trace := List.mem_cons_of_mem _ (List.mem_append_left _ (List.mem_of_getElem? (l := wsX8_trace_o) (i := 0) rfl))
theorem ow_X8_trace_47 : Cond.fieldLink RX8 47 "WrongWordModel" "trace" "[I" ∈ wsX8_trace := List.mem_cons_of_mem _ (List.mem_append_left _ (List.mem_of_getElem? (l := wsX8_trace_o) (i := 1) rfl))
theorem ow_X8_trace_50 : Cond.constant RX8 50 (-1000000) ∈ wsX8_trace := List.mem_cons_of_mem _ (List.mem_append_left _ (List.mem_of_getElem? (l := wsX8_trace_o) (i := 2) rfl))
theorem hS_X8_count : yX8_count.cls ≠ "java/lang/invoke/MethodHandle" ∧ yX8_count.cls ≠ "java/lang/invoke/VarHandle" ∧ (parseMethodDescriptor yX8_count.desc).map (fun d => d.parameters.length) = some 1 := ⟨nm_X8.1, nm_X8.2, pd_8⟩
theorem hV_X8_count : yX8_count.cls = RX8 ∧ yX8_count.cls ≠ "java/lang/invoke/MethodHandle" ∧ yX8_count.cls ≠ "java/lang/invoke/VarHandle" ∧ (parseMethodDescriptor yX8_count.desc).map (fun d => d.parameters.length) = some 1 := ⟨rfl, hS_X8_count⟩
theorem fi_X8_count_X8 : ∀ w ∈ wsX80, w ∈ wsX8_count := fun _ h => List.mem_cons_of_mem _ (List.mem_append_right _ (List.mem_append_right _ (List.mem_append_left _ h)))
theorem ow_X8_count_25 : Cond.fieldLink RX8 25 "WrongWordModel" "now" "[I" ∈ wsX8_count := List.mem_cons_of_mem _ (List.mem_append_left _ (List.mem_of_getElem? (l := wsX8_count_o) (i := 0) rfl))
theorem ow_X8_count_149 : Cond.fieldLink RX8 149 "WrongWordModel" "acts" "I" ∈ wsX8_count := List.mem_cons_of_mem _ (List.mem_append_left _ (List.mem_of_getElem? (l := wsX8_count_o) (i := 1) rfl))
theorem ow_X8_count_82 : Cond.fieldLink RX8 82 "WrongWordModel" "taped" "I" ∈ wsX8_count := List.mem_cons_of_mem _ (List.mem_append_left _ (List.mem_of_getElem? (l := wsX8_count_o) (i := 2) rfl))
theorem ow_X8_count_64 : Cond.constant RX8 64 (-1000001) ∈ wsX8_count := List.mem_cons_of_mem _ (List.mem_append_left _ (List.mem_of_getElem? (l := wsX8_count_o) (i := 3) rfl))
theorem ow_X8_count_7 : Cond.fieldLink RX8 7 "WrongWordModel" "lane" "[I" ∈ wsX8_count := List.mem_cons_of_mem _ (List.mem_append_left _ (List.mem_of_getElem? (l := wsX8_count_o) (i := 4) rfl))
theorem ow_X8_count_50 : Cond.constant RX8 50 (-1000000) ∈ wsX8_count := List.mem_cons_of_mem _ (List.mem_append_left _ (List.mem_of_getElem? (l := wsX8_count_o) (i := 5) rfl))
theorem hS_X8_status : yX8_status.cls ≠ "java/lang/invoke/MethodHandle" ∧ yX8_status.cls ≠ "java/lang/invoke/VarHandle" ∧ (parseMethodDescriptor yX8_status.desc).map (fun d => d.parameters.length) = some 0 := ⟨nm_X8.1, nm_X8.2, pd_5⟩
theorem hV_X8_status : yX8_status.cls = RX8 ∧ yX8_status.cls ≠ "java/lang/invoke/MethodHandle" ∧ yX8_status.cls ≠ "java/lang/invoke/VarHandle" ∧ (parseMethodDescriptor yX8_status.desc).map (fun d => d.parameters.length) = some 0 := ⟨rfl, hS_X8_status⟩
theorem fi_X8_status_X8 : ∀ w ∈ wsX80, w ∈ wsX8_status := fun _ h => List.mem_cons_of_mem _ (List.mem_append_right _ (List.mem_append_left _ h))
theorem ow_X8_status_51 : Cond.fieldLink RX8 51 "WrongWordModel" "status" "I" ∈ wsX8_status := List.mem_cons_of_mem _ (List.mem_append_left _ (List.mem_of_getElem? (l := wsX8_status_o) (i := 0) rfl))
theorem hS_J9_max_7cf53 : yJ9_max_7cf53.cls ≠ "java/lang/invoke/MethodHandle" ∧ yJ9_max_7cf53.cls ≠ "java/lang/invoke/VarHandle" ∧ (parseMethodDescriptor yJ9_max_7cf53.desc).map (fun d => d.parameters.length) = some 2 := ⟨nm_J9.1, nm_J9.2, pd_10⟩
theorem hV_J9_max_7cf53 : yJ9_max_7cf53.cls = RJ9 ∧ yJ9_max_7cf53.cls ≠ "java/lang/invoke/MethodHandle" ∧ yJ9_max_7cf53.cls ≠ "java/lang/invoke/VarHandle" ∧ (parseMethodDescriptor yJ9_max_7cf53.desc).map (fun d => d.parameters.length) = some 2 := ⟨rfl, hS_J9_max_7cf53⟩
theorem hS_J9_min_7cf53 : yJ9_min_7cf53.cls ≠ "java/lang/invoke/MethodHandle" ∧ yJ9_min_7cf53.cls ≠ "java/lang/invoke/VarHandle" ∧ (parseMethodDescriptor yJ9_min_7cf53.desc).map (fun d => d.parameters.length) = some 2 := ⟨nm_J9.1, nm_J9.2, pd_10⟩
theorem hV_J9_min_7cf53 : yJ9_min_7cf53.cls = RJ9 ∧ yJ9_min_7cf53.cls ≠ "java/lang/invoke/MethodHandle" ∧ yJ9_min_7cf53.cls ≠ "java/lang/invoke/VarHandle" ∧ (parseMethodDescriptor yJ9_min_7cf53.desc).map (fun d => d.parameters.length) = some 2 := ⟨rfl, hS_J9_min_7cf53⟩
theorem ggX0_init_X4_init : GoodIn wsX0_init wsX4_init := fun w h => ⟨List.mem_cons_of_mem _ (List.mem_append_right _ (List.mem_append_right _ (List.mem_append_right _ (List.mem_append_left _ h)))), good_of_word (gdX4_init w h)⟩
set_option maxRecDepth 20000 in
theorem gX0_init_X4_init_n17 : GoodIn wsX0_init (wsX4_init) := ggX0_init_X4_init
def tb_X0_init_1 : List (Nat × Instr × Nat) := [(0, .aload_n 0, 1), (1, .invokespecial 3, 3), (4, .aload_n 0, 1), (5, .bipush 24, 2), (7, .anewarray 9, 3), (10, .putfield 11, 3), (13, .iconst 0, 1), (14, .istore_n 1, 1), (15, .iload_n 1, 1), (16, .bipush 24, 2), (18, .if_icmp .ge 22, 3), (21, .aload_n 0, 1), (22, .getfield 11, 3), (25, .iload_n 1, 1), (26, .new 9, 3), (29, .dup, 1), (30, .invokespecial 17, 3), (33, .aastore, 1), (34, .iinc 1 1, 3), (37, .goto (-22), 3), (40, .return_, 1)]
set_option maxRecDepth 100000 in
theorem tk_X0_init_1 : (tb_X0_init_1.all fun q => decide (decode cX0_init q.1 = .ok q.2)) = true := by decide +kernel
theorem dX0_init_0 : decode cX0_init 0 = .ok (.aload_n 0, 1) := tb_d tk_X0_init_1 0 (0, .aload_n 0, 1) rfl
theorem dX0_init_1 : decode cX0_init 1 = .ok (.invokespecial 3, 3) := tb_d tk_X0_init_1 1 (1, .invokespecial 3, 3) rfl
theorem dX0_init_4 : decode cX0_init 4 = .ok (.aload_n 0, 1) := tb_d tk_X0_init_1 2 (4, .aload_n 0, 1) rfl
theorem dX0_init_5 : decode cX0_init 5 = .ok (.bipush 24, 2) := tb_d tk_X0_init_1 3 (5, .bipush 24, 2) rfl
theorem dX0_init_7 : decode cX0_init 7 = .ok (.anewarray 9, 3) := tb_d tk_X0_init_1 4 (7, .anewarray 9, 3) rfl
theorem dX0_init_10 : decode cX0_init 10 = .ok (.putfield 11, 3) := tb_d tk_X0_init_1 5 (10, .putfield 11, 3) rfl
theorem dX0_init_13 : decode cX0_init 13 = .ok (.iconst 0, 1) := tb_d tk_X0_init_1 6 (13, .iconst 0, 1) rfl
theorem dX0_init_14 : decode cX0_init 14 = .ok (.istore_n 1, 1) := tb_d tk_X0_init_1 7 (14, .istore_n 1, 1) rfl
theorem dX0_init_15 : decode cX0_init 15 = .ok (.iload_n 1, 1) := tb_d tk_X0_init_1 8 (15, .iload_n 1, 1) rfl
theorem dX0_init_16 : decode cX0_init 16 = .ok (.bipush 24, 2) := tb_d tk_X0_init_1 9 (16, .bipush 24, 2) rfl
theorem dX0_init_18 : decode cX0_init 18 = .ok (.if_icmp .ge 22, 3) := tb_d tk_X0_init_1 10 (18, .if_icmp .ge 22, 3) rfl
theorem dX0_init_21 : decode cX0_init 21 = .ok (.aload_n 0, 1) := tb_d tk_X0_init_1 11 (21, .aload_n 0, 1) rfl
theorem dX0_init_22 : decode cX0_init 22 = .ok (.getfield 11, 3) := tb_d tk_X0_init_1 12 (22, .getfield 11, 3) rfl
theorem dX0_init_25 : decode cX0_init 25 = .ok (.iload_n 1, 1) := tb_d tk_X0_init_1 13 (25, .iload_n 1, 1) rfl
theorem dX0_init_26 : decode cX0_init 26 = .ok (.new 9, 3) := tb_d tk_X0_init_1 14 (26, .new 9, 3) rfl
theorem dX0_init_29 : decode cX0_init 29 = .ok (.dup, 1) := tb_d tk_X0_init_1 15 (29, .dup, 1) rfl
theorem dX0_init_30 : decode cX0_init 30 = .ok (.invokespecial 17, 3) := tb_d tk_X0_init_1 16 (30, .invokespecial 17, 3) rfl
theorem dX0_init_33 : decode cX0_init 33 = .ok (.aastore, 1) := tb_d tk_X0_init_1 17 (33, .aastore, 1) rfl
theorem dX0_init_34 : decode cX0_init 34 = .ok (.iinc 1 1, 3) := tb_d tk_X0_init_1 18 (34, .iinc 1 1, 3) rfl
theorem dX0_init_37 : decode cX0_init 37 = .ok (.goto (-22), 3) := tb_d tk_X0_init_1 19 (37, .goto (-22), 3) rfl
theorem dX0_init_40 : decode cX0_init 40 = .ok (.return_, 1) := tb_d tk_X0_init_1 20 (40, .return_, 1) rfl
def tb_X0_forget_1 : List (Nat × Instr × Nat) := [(0, .aload_n 0, 1), (1, .iconst 0, 1), (2, .putfield 18, 3), (5, .return_, 1)]
set_option maxRecDepth 100000 in
theorem tk_X0_forget_1 : (tb_X0_forget_1.all fun q => decide (decode cX0_forget q.1 = .ok q.2)) = true := by decide +kernel
theorem dX0_forget_0 : decode cX0_forget 0 = .ok (.aload_n 0, 1) := tb_d tk_X0_forget_1 0 (0, .aload_n 0, 1) rfl
theorem dX0_forget_1 : decode cX0_forget 1 = .ok (.iconst 0, 1) := tb_d tk_X0_forget_1 1 (1, .iconst 0, 1) rfl
theorem dX0_forget_2 : decode cX0_forget 2 = .ok (.putfield 18, 3) := tb_d tk_X0_forget_1 2 (2, .putfield 18, 3) rfl
theorem dX0_forget_5 : decode cX0_forget 5 = .ok (.return_, 1) := tb_d tk_X0_forget_1 3 (5, .return_, 1) rfl
theorem ggX0_keep_X4_become : GoodIn wsX0_keep wsX4_become := fun w h => ⟨List.mem_cons_of_mem _ (List.mem_append_right _ (List.mem_append_right _ (List.mem_append_right _ (List.mem_append_right _ (List.mem_append_left _ h))))), good_of_word (gdX4_become w h)⟩
set_option maxRecDepth 20000 in
theorem gX0_keep_X4_become : GoodIn wsX0_keep (wsV RX0 25 RX4 yX4_become wsX4_become) := goodIn_app (a := bkV RX0 25 RX4 yX4_become) (fun w h => ⟨List.mem_cons_of_mem _ (List.mem_append_right _ (List.mem_append_left _ h)), good_of_word (gd_bV _ _ _ _ w h)⟩) ggX0_keep_X4_become
def tb_X0_keep_1 : List (Nat × Instr × Nat) := [(0, .aload_n 0, 1), (1, .getfield 11, 3), (4, .aload_n 0, 1), (5, .getfield 22, 3), (8, .aaload, 1), (9, .aload_n 1, 1), (10, .invokevirtual 25, 3), (13, .aload_n 0, 1), (14, .aload_n 0, 1), (15, .getfield 22, 3), (18, .iconst 1, 1), (19, .iadd, 1), (20, .bipush 24, 2), (22, .if_icmp .ge 12, 3), (25, .aload_n 0, 1), (26, .getfield 22, 3), (29, .iconst 1, 1), (30, .iadd, 1), (31, .goto 4, 3), (34, .iconst 0, 1), (35, .putfield 22, 3), (38, .aload_n 0, 1), (39, .aload_n 0, 1), (40, .getfield 18, 3), (43, .iconst 1, 1), (44, .iadd, 1), (45, .bipush 24, 2), (47, .invokestatic 29, 3), (50, .putfield 18, 3), (53, .return_, 1)]
set_option maxRecDepth 100000 in
theorem tk_X0_keep_1 : (tb_X0_keep_1.all fun q => decide (decode cX0_keep q.1 = .ok q.2)) = true := by decide +kernel
theorem dX0_keep_0 : decode cX0_keep 0 = .ok (.aload_n 0, 1) := tb_d tk_X0_keep_1 0 (0, .aload_n 0, 1) rfl
theorem dX0_keep_1 : decode cX0_keep 1 = .ok (.getfield 11, 3) := tb_d tk_X0_keep_1 1 (1, .getfield 11, 3) rfl
theorem dX0_keep_4 : decode cX0_keep 4 = .ok (.aload_n 0, 1) := tb_d tk_X0_keep_1 2 (4, .aload_n 0, 1) rfl
theorem dX0_keep_5 : decode cX0_keep 5 = .ok (.getfield 22, 3) := tb_d tk_X0_keep_1 3 (5, .getfield 22, 3) rfl
theorem dX0_keep_8 : decode cX0_keep 8 = .ok (.aaload, 1) := tb_d tk_X0_keep_1 4 (8, .aaload, 1) rfl
theorem dX0_keep_9 : decode cX0_keep 9 = .ok (.aload_n 1, 1) := tb_d tk_X0_keep_1 5 (9, .aload_n 1, 1) rfl
theorem dX0_keep_10 : decode cX0_keep 10 = .ok (.invokevirtual 25, 3) := tb_d tk_X0_keep_1 6 (10, .invokevirtual 25, 3) rfl
theorem dX0_keep_13 : decode cX0_keep 13 = .ok (.aload_n 0, 1) := tb_d tk_X0_keep_1 7 (13, .aload_n 0, 1) rfl
theorem dX0_keep_14 : decode cX0_keep 14 = .ok (.aload_n 0, 1) := tb_d tk_X0_keep_1 8 (14, .aload_n 0, 1) rfl
theorem dX0_keep_15 : decode cX0_keep 15 = .ok (.getfield 22, 3) := tb_d tk_X0_keep_1 9 (15, .getfield 22, 3) rfl
theorem dX0_keep_18 : decode cX0_keep 18 = .ok (.iconst 1, 1) := tb_d tk_X0_keep_1 10 (18, .iconst 1, 1) rfl
theorem dX0_keep_19 : decode cX0_keep 19 = .ok (.iadd, 1) := tb_d tk_X0_keep_1 11 (19, .iadd, 1) rfl
theorem dX0_keep_20 : decode cX0_keep 20 = .ok (.bipush 24, 2) := tb_d tk_X0_keep_1 12 (20, .bipush 24, 2) rfl
theorem dX0_keep_22 : decode cX0_keep 22 = .ok (.if_icmp .ge 12, 3) := tb_d tk_X0_keep_1 13 (22, .if_icmp .ge 12, 3) rfl
theorem dX0_keep_25 : decode cX0_keep 25 = .ok (.aload_n 0, 1) := tb_d tk_X0_keep_1 14 (25, .aload_n 0, 1) rfl
theorem dX0_keep_26 : decode cX0_keep 26 = .ok (.getfield 22, 3) := tb_d tk_X0_keep_1 15 (26, .getfield 22, 3) rfl
theorem dX0_keep_29 : decode cX0_keep 29 = .ok (.iconst 1, 1) := tb_d tk_X0_keep_1 16 (29, .iconst 1, 1) rfl
theorem dX0_keep_30 : decode cX0_keep 30 = .ok (.iadd, 1) := tb_d tk_X0_keep_1 17 (30, .iadd, 1) rfl
theorem dX0_keep_31 : decode cX0_keep 31 = .ok (.goto 4, 3) := tb_d tk_X0_keep_1 18 (31, .goto 4, 3) rfl
theorem dX0_keep_34 : decode cX0_keep 34 = .ok (.iconst 0, 1) := tb_d tk_X0_keep_1 19 (34, .iconst 0, 1) rfl
theorem dX0_keep_35 : decode cX0_keep 35 = .ok (.putfield 22, 3) := tb_d tk_X0_keep_1 20 (35, .putfield 22, 3) rfl
theorem dX0_keep_38 : decode cX0_keep 38 = .ok (.aload_n 0, 1) := tb_d tk_X0_keep_1 21 (38, .aload_n 0, 1) rfl
theorem dX0_keep_39 : decode cX0_keep 39 = .ok (.aload_n 0, 1) := tb_d tk_X0_keep_1 22 (39, .aload_n 0, 1) rfl
theorem dX0_keep_40 : decode cX0_keep 40 = .ok (.getfield 18, 3) := tb_d tk_X0_keep_1 23 (40, .getfield 18, 3) rfl
theorem dX0_keep_43 : decode cX0_keep 43 = .ok (.iconst 1, 1) := tb_d tk_X0_keep_1 24 (43, .iconst 1, 1) rfl
theorem dX0_keep_44 : decode cX0_keep 44 = .ok (.iadd, 1) := tb_d tk_X0_keep_1 25 (44, .iadd, 1) rfl
theorem dX0_keep_45 : decode cX0_keep 45 = .ok (.bipush 24, 2) := tb_d tk_X0_keep_1 26 (45, .bipush 24, 2) rfl
theorem dX0_keep_47 : decode cX0_keep 47 = .ok (.invokestatic 29, 3) := tb_d tk_X0_keep_1 27 (47, .invokestatic 29, 3) rfl
theorem dX0_keep_50 : decode cX0_keep 50 = .ok (.putfield 18, 3) := tb_d tk_X0_keep_1 28 (50, .putfield 18, 3) rfl
theorem dX0_keep_53 : decode cX0_keep 53 = .ok (.return_, 1) := tb_d tk_X0_keep_1 29 (53, .return_, 1) rfl
theorem ggX0_takeBack_X4_become : GoodIn wsX0_takeBack wsX4_become := fun w h => ⟨List.mem_cons_of_mem _ (List.mem_append_right _ (List.mem_append_right _ (List.mem_append_right _ (List.mem_append_right _ (List.mem_append_left _ h))))), good_of_word (gdX4_become w h)⟩
set_option maxRecDepth 20000 in
theorem gX0_takeBack_X4_become : GoodIn wsX0_takeBack (wsV RX0 25 RX4 yX4_become wsX4_become) := goodIn_app (a := bkV RX0 25 RX4 yX4_become) (fun w h => ⟨List.mem_cons_of_mem _ (List.mem_append_right _ (List.mem_append_left _ h)), good_of_word (gd_bV _ _ _ _ w h)⟩) ggX0_takeBack_X4_become
def tb_X0_takeBack_1 : List (Nat × Instr × Nat) := [(0, .aload_n 0, 1), (1, .getfield 18, 3), (4, .ifCond .ne 5, 3), (7, .iconst 0, 1), (8, .ireturn, 1), (9, .aload_n 0, 1), (10, .aload_n 0, 1), (11, .getfield 22, 3), (14, .ifCond .le 12, 3), (17, .aload_n 0, 1), (18, .getfield 22, 3), (21, .iconst 1, 1), (22, .isub, 1), (23, .goto 5, 3), (26, .bipush 23, 2), (28, .putfield 22, 3), (31, .aload_n 0, 1), (32, .dup, 1), (33, .getfield 18, 3), (36, .iconst 1, 1), (37, .isub, 1), (38, .putfield 18, 3), (41, .aload_n 1, 1), (42, .aload_n 0, 1), (43, .getfield 11, 3), (46, .aload_n 0, 1), (47, .getfield 22, 3), (50, .aaload, 1), (51, .invokevirtual 25, 3), (54, .iconst 1, 1), (55, .ireturn, 1)]
set_option maxRecDepth 100000 in
theorem tk_X0_takeBack_1 : (tb_X0_takeBack_1.all fun q => decide (decode cX0_takeBack q.1 = .ok q.2)) = true := by decide +kernel
theorem dX0_takeBack_0 : decode cX0_takeBack 0 = .ok (.aload_n 0, 1) := tb_d tk_X0_takeBack_1 0 (0, .aload_n 0, 1) rfl
theorem dX0_takeBack_1 : decode cX0_takeBack 1 = .ok (.getfield 18, 3) := tb_d tk_X0_takeBack_1 1 (1, .getfield 18, 3) rfl
theorem dX0_takeBack_4 : decode cX0_takeBack 4 = .ok (.ifCond .ne 5, 3) := tb_d tk_X0_takeBack_1 2 (4, .ifCond .ne 5, 3) rfl
theorem dX0_takeBack_7 : decode cX0_takeBack 7 = .ok (.iconst 0, 1) := tb_d tk_X0_takeBack_1 3 (7, .iconst 0, 1) rfl
theorem dX0_takeBack_8 : decode cX0_takeBack 8 = .ok (.ireturn, 1) := tb_d tk_X0_takeBack_1 4 (8, .ireturn, 1) rfl
theorem dX0_takeBack_9 : decode cX0_takeBack 9 = .ok (.aload_n 0, 1) := tb_d tk_X0_takeBack_1 5 (9, .aload_n 0, 1) rfl
theorem dX0_takeBack_10 : decode cX0_takeBack 10 = .ok (.aload_n 0, 1) := tb_d tk_X0_takeBack_1 6 (10, .aload_n 0, 1) rfl
theorem dX0_takeBack_11 : decode cX0_takeBack 11 = .ok (.getfield 22, 3) := tb_d tk_X0_takeBack_1 7 (11, .getfield 22, 3) rfl
theorem dX0_takeBack_14 : decode cX0_takeBack 14 = .ok (.ifCond .le 12, 3) := tb_d tk_X0_takeBack_1 8 (14, .ifCond .le 12, 3) rfl
theorem dX0_takeBack_17 : decode cX0_takeBack 17 = .ok (.aload_n 0, 1) := tb_d tk_X0_takeBack_1 9 (17, .aload_n 0, 1) rfl
theorem dX0_takeBack_18 : decode cX0_takeBack 18 = .ok (.getfield 22, 3) := tb_d tk_X0_takeBack_1 10 (18, .getfield 22, 3) rfl
theorem dX0_takeBack_21 : decode cX0_takeBack 21 = .ok (.iconst 1, 1) := tb_d tk_X0_takeBack_1 11 (21, .iconst 1, 1) rfl
theorem dX0_takeBack_22 : decode cX0_takeBack 22 = .ok (.isub, 1) := tb_d tk_X0_takeBack_1 12 (22, .isub, 1) rfl
theorem dX0_takeBack_23 : decode cX0_takeBack 23 = .ok (.goto 5, 3) := tb_d tk_X0_takeBack_1 13 (23, .goto 5, 3) rfl
theorem dX0_takeBack_26 : decode cX0_takeBack 26 = .ok (.bipush 23, 2) := tb_d tk_X0_takeBack_1 14 (26, .bipush 23, 2) rfl
theorem dX0_takeBack_28 : decode cX0_takeBack 28 = .ok (.putfield 22, 3) := tb_d tk_X0_takeBack_1 15 (28, .putfield 22, 3) rfl
theorem dX0_takeBack_31 : decode cX0_takeBack 31 = .ok (.aload_n 0, 1) := tb_d tk_X0_takeBack_1 16 (31, .aload_n 0, 1) rfl
theorem dX0_takeBack_32 : decode cX0_takeBack 32 = .ok (.dup, 1) := tb_d tk_X0_takeBack_1 17 (32, .dup, 1) rfl
theorem dX0_takeBack_33 : decode cX0_takeBack 33 = .ok (.getfield 18, 3) := tb_d tk_X0_takeBack_1 18 (33, .getfield 18, 3) rfl
theorem dX0_takeBack_36 : decode cX0_takeBack 36 = .ok (.iconst 1, 1) := tb_d tk_X0_takeBack_1 19 (36, .iconst 1, 1) rfl
theorem dX0_takeBack_37 : decode cX0_takeBack 37 = .ok (.isub, 1) := tb_d tk_X0_takeBack_1 20 (37, .isub, 1) rfl
theorem dX0_takeBack_38 : decode cX0_takeBack 38 = .ok (.putfield 18, 3) := tb_d tk_X0_takeBack_1 21 (38, .putfield 18, 3) rfl
theorem dX0_takeBack_41 : decode cX0_takeBack 41 = .ok (.aload_n 1, 1) := tb_d tk_X0_takeBack_1 22 (41, .aload_n 1, 1) rfl
theorem dX0_takeBack_42 : decode cX0_takeBack 42 = .ok (.aload_n 0, 1) := tb_d tk_X0_takeBack_1 23 (42, .aload_n 0, 1) rfl
theorem dX0_takeBack_43 : decode cX0_takeBack 43 = .ok (.getfield 11, 3) := tb_d tk_X0_takeBack_1 24 (43, .getfield 11, 3) rfl
theorem dX0_takeBack_46 : decode cX0_takeBack 46 = .ok (.aload_n 0, 1) := tb_d tk_X0_takeBack_1 25 (46, .aload_n 0, 1) rfl
theorem dX0_takeBack_47 : decode cX0_takeBack 47 = .ok (.getfield 22, 3) := tb_d tk_X0_takeBack_1 26 (47, .getfield 22, 3) rfl
theorem dX0_takeBack_50 : decode cX0_takeBack 50 = .ok (.aaload, 1) := tb_d tk_X0_takeBack_1 27 (50, .aaload, 1) rfl
theorem dX0_takeBack_51 : decode cX0_takeBack 51 = .ok (.invokevirtual 25, 3) := tb_d tk_X0_takeBack_1 28 (51, .invokevirtual 25, 3) rfl
theorem dX0_takeBack_54 : decode cX0_takeBack 54 = .ok (.iconst 1, 1) := tb_d tk_X0_takeBack_1 29 (54, .iconst 1, 1) rfl
theorem dX0_takeBack_55 : decode cX0_takeBack 55 = .ok (.ireturn, 1) := tb_d tk_X0_takeBack_1 30 (55, .ireturn, 1) rfl
def tb_X1_init_1 : List (Nat × Instr × Nat) := [(0, .aload_n 0, 1), (1, .invokespecial 3, 3), (4, .aload_n 0, 1), (5, .bipush 16, 2), (7, .newarray .int, 2), (9, .putfield 11, 3), (12, .return_, 1)]
set_option maxRecDepth 100000 in
theorem tk_X1_init_1 : (tb_X1_init_1.all fun q => decide (decode cX1_init q.1 = .ok q.2)) = true := by decide +kernel
theorem dX1_init_0 : decode cX1_init 0 = .ok (.aload_n 0, 1) := tb_d tk_X1_init_1 0 (0, .aload_n 0, 1) rfl
theorem dX1_init_1 : decode cX1_init 1 = .ok (.invokespecial 3, 3) := tb_d tk_X1_init_1 1 (1, .invokespecial 3, 3) rfl
theorem dX1_init_4 : decode cX1_init 4 = .ok (.aload_n 0, 1) := tb_d tk_X1_init_1 2 (4, .aload_n 0, 1) rfl
theorem dX1_init_5 : decode cX1_init 5 = .ok (.bipush 16, 2) := tb_d tk_X1_init_1 3 (5, .bipush 16, 2) rfl
theorem dX1_init_7 : decode cX1_init 7 = .ok (.newarray .int, 2) := tb_d tk_X1_init_1 4 (7, .newarray .int, 2) rfl
theorem dX1_init_9 : decode cX1_init 9 = .ok (.putfield 11, 3) := tb_d tk_X1_init_1 5 (9, .putfield 11, 3) rfl
theorem dX1_init_12 : decode cX1_init 12 = .ok (.return_, 1) := tb_d tk_X1_init_1 6 (12, .return_, 1) rfl
def tb_X1_isA_1 : List (Nat × Instr × Nat) := [(0, .iload_n 0, 1), (1, .istore_n 2, 1), (2, .iconst 0, 1), (3, .istore_n 3, 1), (4, .iload_n 3, 1), (5, .iconst 5, 1), (6, .if_icmp .gt 31, 3), (9, .iload_n 2, 1), (10, .ifCond .lt 27, 3), (13, .iload_n 2, 1), (14, .iconst 5, 1), (15, .if_icmp .gt 22, 3), (18, .iload_n 2, 1), (19, .iload_n 1, 1), (20, .if_icmp .ne 5, 3), (23, .iconst 1, 1), (24, .ireturn, 1), (25, .getstatic 15, 3), (28, .iload_n 2, 1), (29, .iaload, 1), (30, .istore_n 2, 1), (31, .iinc 3 1, 3), (34, .goto (-30), 3), (37, .iconst 0, 1), (38, .ireturn, 1)]
set_option maxRecDepth 100000 in
theorem tk_X1_isA_1 : (tb_X1_isA_1.all fun q => decide (decode cX1_isA q.1 = .ok q.2)) = true := by decide +kernel
theorem dX1_isA_0 : decode cX1_isA 0 = .ok (.iload_n 0, 1) := tb_d tk_X1_isA_1 0 (0, .iload_n 0, 1) rfl
theorem dX1_isA_1 : decode cX1_isA 1 = .ok (.istore_n 2, 1) := tb_d tk_X1_isA_1 1 (1, .istore_n 2, 1) rfl
theorem dX1_isA_2 : decode cX1_isA 2 = .ok (.iconst 0, 1) := tb_d tk_X1_isA_1 2 (2, .iconst 0, 1) rfl
theorem dX1_isA_3 : decode cX1_isA 3 = .ok (.istore_n 3, 1) := tb_d tk_X1_isA_1 3 (3, .istore_n 3, 1) rfl
theorem dX1_isA_4 : decode cX1_isA 4 = .ok (.iload_n 3, 1) := tb_d tk_X1_isA_1 4 (4, .iload_n 3, 1) rfl
theorem dX1_isA_5 : decode cX1_isA 5 = .ok (.iconst 5, 1) := tb_d tk_X1_isA_1 5 (5, .iconst 5, 1) rfl
theorem dX1_isA_6 : decode cX1_isA 6 = .ok (.if_icmp .gt 31, 3) := tb_d tk_X1_isA_1 6 (6, .if_icmp .gt 31, 3) rfl
theorem dX1_isA_9 : decode cX1_isA 9 = .ok (.iload_n 2, 1) := tb_d tk_X1_isA_1 7 (9, .iload_n 2, 1) rfl
theorem dX1_isA_10 : decode cX1_isA 10 = .ok (.ifCond .lt 27, 3) := tb_d tk_X1_isA_1 8 (10, .ifCond .lt 27, 3) rfl
theorem dX1_isA_13 : decode cX1_isA 13 = .ok (.iload_n 2, 1) := tb_d tk_X1_isA_1 9 (13, .iload_n 2, 1) rfl
theorem dX1_isA_14 : decode cX1_isA 14 = .ok (.iconst 5, 1) := tb_d tk_X1_isA_1 10 (14, .iconst 5, 1) rfl
theorem dX1_isA_15 : decode cX1_isA 15 = .ok (.if_icmp .gt 22, 3) := tb_d tk_X1_isA_1 11 (15, .if_icmp .gt 22, 3) rfl
theorem dX1_isA_18 : decode cX1_isA 18 = .ok (.iload_n 2, 1) := tb_d tk_X1_isA_1 12 (18, .iload_n 2, 1) rfl
theorem dX1_isA_19 : decode cX1_isA 19 = .ok (.iload_n 1, 1) := tb_d tk_X1_isA_1 13 (19, .iload_n 1, 1) rfl
theorem dX1_isA_20 : decode cX1_isA 20 = .ok (.if_icmp .ne 5, 3) := tb_d tk_X1_isA_1 14 (20, .if_icmp .ne 5, 3) rfl
theorem dX1_isA_23 : decode cX1_isA 23 = .ok (.iconst 1, 1) := tb_d tk_X1_isA_1 15 (23, .iconst 1, 1) rfl
theorem dX1_isA_24 : decode cX1_isA 24 = .ok (.ireturn, 1) := tb_d tk_X1_isA_1 16 (24, .ireturn, 1) rfl
theorem dX1_isA_25 : decode cX1_isA 25 = .ok (.getstatic 15, 3) := tb_d tk_X1_isA_1 17 (25, .getstatic 15, 3) rfl
theorem dX1_isA_28 : decode cX1_isA 28 = .ok (.iload_n 2, 1) := tb_d tk_X1_isA_1 18 (28, .iload_n 2, 1) rfl
theorem dX1_isA_29 : decode cX1_isA 29 = .ok (.iaload, 1) := tb_d tk_X1_isA_1 19 (29, .iaload, 1) rfl
theorem dX1_isA_30 : decode cX1_isA 30 = .ok (.istore_n 2, 1) := tb_d tk_X1_isA_1 20 (30, .istore_n 2, 1) rfl
theorem dX1_isA_31 : decode cX1_isA 31 = .ok (.iinc 3 1, 3) := tb_d tk_X1_isA_1 21 (31, .iinc 3 1, 3) rfl
theorem dX1_isA_34 : decode cX1_isA 34 = .ok (.goto (-30), 3) := tb_d tk_X1_isA_1 22 (34, .goto (-30), 3) rfl
theorem dX1_isA_37 : decode cX1_isA 37 = .ok (.iconst 0, 1) := tb_d tk_X1_isA_1 23 (37, .iconst 0, 1) rfl
theorem dX1_isA_38 : decode cX1_isA 38 = .ok (.ireturn, 1) := tb_d tk_X1_isA_1 24 (38, .ireturn, 1) rfl
def tb_X1_turnTo_1 : List (Nat × Instr × Nat) := [(0, .aload_n 0, 1), (1, .iload_n 1, 1), (2, .putfield 18, 3), (5, .aload_n 0, 1), (6, .iload_n 2, 1), (7, .putfield 22, 3), (10, .aload_n 0, 1), (11, .iload_n 3, 1), (12, .putfield 25, 3), (15, .aload_n 0, 1), (16, .iload 4, 2), (18, .putfield 28, 3), (21, .aload_n 0, 1), (22, .iconst 0, 1), (23, .putfield 31, 3), (26, .return_, 1)]
set_option maxRecDepth 100000 in
theorem tk_X1_turnTo_1 : (tb_X1_turnTo_1.all fun q => decide (decode cX1_turnTo q.1 = .ok q.2)) = true := by decide +kernel
theorem dX1_turnTo_0 : decode cX1_turnTo 0 = .ok (.aload_n 0, 1) := tb_d tk_X1_turnTo_1 0 (0, .aload_n 0, 1) rfl
theorem dX1_turnTo_1 : decode cX1_turnTo 1 = .ok (.iload_n 1, 1) := tb_d tk_X1_turnTo_1 1 (1, .iload_n 1, 1) rfl
theorem dX1_turnTo_2 : decode cX1_turnTo 2 = .ok (.putfield 18, 3) := tb_d tk_X1_turnTo_1 2 (2, .putfield 18, 3) rfl
theorem dX1_turnTo_5 : decode cX1_turnTo 5 = .ok (.aload_n 0, 1) := tb_d tk_X1_turnTo_1 3 (5, .aload_n 0, 1) rfl
theorem dX1_turnTo_6 : decode cX1_turnTo 6 = .ok (.iload_n 2, 1) := tb_d tk_X1_turnTo_1 4 (6, .iload_n 2, 1) rfl
theorem dX1_turnTo_7 : decode cX1_turnTo 7 = .ok (.putfield 22, 3) := tb_d tk_X1_turnTo_1 5 (7, .putfield 22, 3) rfl
theorem dX1_turnTo_10 : decode cX1_turnTo 10 = .ok (.aload_n 0, 1) := tb_d tk_X1_turnTo_1 6 (10, .aload_n 0, 1) rfl
theorem dX1_turnTo_11 : decode cX1_turnTo 11 = .ok (.iload_n 3, 1) := tb_d tk_X1_turnTo_1 7 (11, .iload_n 3, 1) rfl
theorem dX1_turnTo_12 : decode cX1_turnTo 12 = .ok (.putfield 25, 3) := tb_d tk_X1_turnTo_1 8 (12, .putfield 25, 3) rfl
theorem dX1_turnTo_15 : decode cX1_turnTo 15 = .ok (.aload_n 0, 1) := tb_d tk_X1_turnTo_1 9 (15, .aload_n 0, 1) rfl
theorem dX1_turnTo_16 : decode cX1_turnTo 16 = .ok (.iload 4, 2) := tb_d tk_X1_turnTo_1 10 (16, .iload 4, 2) rfl
theorem dX1_turnTo_18 : decode cX1_turnTo 18 = .ok (.putfield 28, 3) := tb_d tk_X1_turnTo_1 11 (18, .putfield 28, 3) rfl
theorem dX1_turnTo_21 : decode cX1_turnTo 21 = .ok (.aload_n 0, 1) := tb_d tk_X1_turnTo_1 12 (21, .aload_n 0, 1) rfl
theorem dX1_turnTo_22 : decode cX1_turnTo 22 = .ok (.iconst 0, 1) := tb_d tk_X1_turnTo_1 13 (22, .iconst 0, 1) rfl
theorem dX1_turnTo_23 : decode cX1_turnTo 23 = .ok (.putfield 31, 3) := tb_d tk_X1_turnTo_1 14 (23, .putfield 31, 3) rfl
theorem dX1_turnTo_26 : decode cX1_turnTo 26 = .ok (.return_, 1) := tb_d tk_X1_turnTo_1 15 (26, .return_, 1) rfl
theorem ggX1_answer_X1_sizeBody : GoodIn wsX1_answer wsX1_sizeBody := fun w h => ⟨List.mem_cons_of_mem _ (List.mem_append_right _ (List.mem_append_right _ (List.mem_append_right _ (List.mem_append_right _ (List.mem_append_right _ (List.mem_append_left _ h)))))), good_of_word (gdX1_sizeBody w h)⟩
set_option maxRecDepth 20000 in
theorem gX1_answer_X1_sizeBody : GoodIn wsX1_answer (wsV RX1 34 RX1 yX1_sizeBody wsX1_sizeBody) := goodIn_app (a := bkV RX1 34 RX1 yX1_sizeBody) (fun w h => ⟨List.mem_cons_of_mem _ (List.mem_append_right _ (List.mem_append_left _ h)), good_of_word (gd_bV _ _ _ _ w h)⟩) ggX1_answer_X1_sizeBody
theorem ggX1_answer_X1_markBody : GoodIn wsX1_answer wsX1_markBody := fun w h => ⟨List.mem_cons_of_mem _ (List.mem_append_right _ (List.mem_append_right _ (List.mem_append_right _ (List.mem_append_right _ (List.mem_append_right _ (List.mem_append_right _ (List.mem_append_left _ h))))))), good_of_word (gdX1_markBody w h)⟩
set_option maxRecDepth 20000 in
theorem gX1_answer_X1_markBody : GoodIn wsX1_answer (wsV RX1 38 RX1 yX1_markBody wsX1_markBody) := goodIn_app (a := bkV RX1 38 RX1 yX1_markBody) (fun w h => ⟨List.mem_cons_of_mem _ (List.mem_append_right _ (List.mem_append_right _ (List.mem_append_left _ h))), good_of_word (gd_bV _ _ _ _ w h)⟩) ggX1_answer_X1_markBody
theorem ggX1_answer_X1_given : GoodIn wsX1_answer wsX1_given := fun w h => ⟨List.mem_cons_of_mem _ (List.mem_append_right _ (List.mem_append_right _ (List.mem_append_right _ (List.mem_append_right _ (List.mem_append_right _ (List.mem_append_right _ (List.mem_append_right _ (List.mem_append_left _ h)))))))), good_of_word (gdX1_given w h)⟩
set_option maxRecDepth 20000 in
theorem gX1_answer_X1_given : GoodIn wsX1_answer (va_wsS RX1 41 yX1_given wsX1_given) := goodIn_app (a := bkS RX1 41 yX1_given) (fun w h => ⟨List.mem_cons_of_mem _ (List.mem_append_right _ (List.mem_append_right _ (List.mem_append_right _ (List.mem_append_left _ h)))), good_of_word (gd_bS _ _ _ w h)⟩) ggX1_answer_X1_given
def tb_X1_answer_1 : List (Nat × Instr × Nat) := [(0, .aload_n 0, 1), (1, .iload_n 1, 1), (2, .ifCond .ne 10, 3), (5, .aload_n 0, 1), (6, .invokevirtual 34, 3), (9, .goto 7, 3), (12, .aload_n 0, 1), (13, .invokevirtual 38, 3), (16, .iconst 0, 1), (17, .invokestatic 41, 3), (20, .ireturn, 1)]
set_option maxRecDepth 100000 in
theorem tk_X1_answer_1 : (tb_X1_answer_1.all fun q => decide (decode cX1_answer q.1 = .ok q.2)) = true := by decide +kernel
theorem dX1_answer_0 : decode cX1_answer 0 = .ok (.aload_n 0, 1) := tb_d tk_X1_answer_1 0 (0, .aload_n 0, 1) rfl
theorem dX1_answer_1 : decode cX1_answer 1 = .ok (.iload_n 1, 1) := tb_d tk_X1_answer_1 1 (1, .iload_n 1, 1) rfl
theorem dX1_answer_2 : decode cX1_answer 2 = .ok (.ifCond .ne 10, 3) := tb_d tk_X1_answer_1 2 (2, .ifCond .ne 10, 3) rfl
theorem dX1_answer_5 : decode cX1_answer 5 = .ok (.aload_n 0, 1) := tb_d tk_X1_answer_1 3 (5, .aload_n 0, 1) rfl
theorem dX1_answer_6 : decode cX1_answer 6 = .ok (.invokevirtual 34, 3) := tb_d tk_X1_answer_1 4 (6, .invokevirtual 34, 3) rfl
theorem dX1_answer_9 : decode cX1_answer 9 = .ok (.goto 7, 3) := tb_d tk_X1_answer_1 5 (9, .goto 7, 3) rfl
theorem dX1_answer_12 : decode cX1_answer 12 = .ok (.aload_n 0, 1) := tb_d tk_X1_answer_1 6 (12, .aload_n 0, 1) rfl
theorem dX1_answer_13 : decode cX1_answer 13 = .ok (.invokevirtual 38, 3) := tb_d tk_X1_answer_1 7 (13, .invokevirtual 38, 3) rfl
theorem dX1_answer_16 : decode cX1_answer 16 = .ok (.iconst 0, 1) := tb_d tk_X1_answer_1 8 (16, .iconst 0, 1) rfl
theorem dX1_answer_17 : decode cX1_answer 17 = .ok (.invokestatic 41, 3) := tb_d tk_X1_answer_1 9 (17, .invokestatic 41, 3) rfl
theorem dX1_answer_20 : decode cX1_answer 20 = .ok (.ireturn, 1) := tb_d tk_X1_answer_1 10 (20, .ireturn, 1) rfl
def tb_X1_sizeBody_1 : List (Nat × Instr × Nat) := [(0, .getstatic 45, 3), (3, .aload_n 0, 1), (4, .getfield 22, 3), (7, .ifCond .lt 18, 3), (10, .aload_n 0, 1), (11, .getfield 22, 3), (14, .iconst 5, 1), (15, .if_icmp .gt 10, 3), (18, .aload_n 0, 1), (19, .getfield 22, 3), (22, .goto 4, 3), (25, .iconst 0, 1), (26, .iaload, 1), (27, .ireturn, 1)]
set_option maxRecDepth 100000 in
theorem tk_X1_sizeBody_1 : (tb_X1_sizeBody_1.all fun q => decide (decode cX1_sizeBody q.1 = .ok q.2)) = true := by decide +kernel
theorem dX1_sizeBody_0 : decode cX1_sizeBody 0 = .ok (.getstatic 45, 3) := tb_d tk_X1_sizeBody_1 0 (0, .getstatic 45, 3) rfl
theorem dX1_sizeBody_3 : decode cX1_sizeBody 3 = .ok (.aload_n 0, 1) := tb_d tk_X1_sizeBody_1 1 (3, .aload_n 0, 1) rfl
theorem dX1_sizeBody_4 : decode cX1_sizeBody 4 = .ok (.getfield 22, 3) := tb_d tk_X1_sizeBody_1 2 (4, .getfield 22, 3) rfl
theorem dX1_sizeBody_7 : decode cX1_sizeBody 7 = .ok (.ifCond .lt 18, 3) := tb_d tk_X1_sizeBody_1 3 (7, .ifCond .lt 18, 3) rfl
theorem dX1_sizeBody_10 : decode cX1_sizeBody 10 = .ok (.aload_n 0, 1) := tb_d tk_X1_sizeBody_1 4 (10, .aload_n 0, 1) rfl
theorem dX1_sizeBody_11 : decode cX1_sizeBody 11 = .ok (.getfield 22, 3) := tb_d tk_X1_sizeBody_1 5 (11, .getfield 22, 3) rfl
theorem dX1_sizeBody_14 : decode cX1_sizeBody 14 = .ok (.iconst 5, 1) := tb_d tk_X1_sizeBody_1 6 (14, .iconst 5, 1) rfl
theorem dX1_sizeBody_15 : decode cX1_sizeBody 15 = .ok (.if_icmp .gt 10, 3) := tb_d tk_X1_sizeBody_1 7 (15, .if_icmp .gt 10, 3) rfl
theorem dX1_sizeBody_18 : decode cX1_sizeBody 18 = .ok (.aload_n 0, 1) := tb_d tk_X1_sizeBody_1 8 (18, .aload_n 0, 1) rfl
theorem dX1_sizeBody_19 : decode cX1_sizeBody 19 = .ok (.getfield 22, 3) := tb_d tk_X1_sizeBody_1 9 (19, .getfield 22, 3) rfl
theorem dX1_sizeBody_22 : decode cX1_sizeBody 22 = .ok (.goto 4, 3) := tb_d tk_X1_sizeBody_1 10 (22, .goto 4, 3) rfl
theorem dX1_sizeBody_25 : decode cX1_sizeBody 25 = .ok (.iconst 0, 1) := tb_d tk_X1_sizeBody_1 11 (25, .iconst 0, 1) rfl
theorem dX1_sizeBody_26 : decode cX1_sizeBody 26 = .ok (.iaload, 1) := tb_d tk_X1_sizeBody_1 12 (26, .iaload, 1) rfl
theorem dX1_sizeBody_27 : decode cX1_sizeBody 27 = .ok (.ireturn, 1) := tb_d tk_X1_sizeBody_1 13 (27, .ireturn, 1) rfl
def tb_X1_markBody_1 : List (Nat × Instr × Nat) := [(0, .getstatic 48, 3), (3, .aload_n 0, 1), (4, .getfield 22, 3), (7, .ifCond .lt 18, 3), (10, .aload_n 0, 1), (11, .getfield 22, 3), (14, .iconst 5, 1), (15, .if_icmp .gt 10, 3), (18, .aload_n 0, 1), (19, .getfield 22, 3), (22, .goto 4, 3), (25, .iconst 0, 1), (26, .iaload, 1), (27, .ireturn, 1)]
set_option maxRecDepth 100000 in
theorem tk_X1_markBody_1 : (tb_X1_markBody_1.all fun q => decide (decode cX1_markBody q.1 = .ok q.2)) = true := by decide +kernel
theorem dX1_markBody_0 : decode cX1_markBody 0 = .ok (.getstatic 48, 3) := tb_d tk_X1_markBody_1 0 (0, .getstatic 48, 3) rfl
theorem dX1_markBody_3 : decode cX1_markBody 3 = .ok (.aload_n 0, 1) := tb_d tk_X1_markBody_1 1 (3, .aload_n 0, 1) rfl
theorem dX1_markBody_4 : decode cX1_markBody 4 = .ok (.getfield 22, 3) := tb_d tk_X1_markBody_1 2 (4, .getfield 22, 3) rfl
theorem dX1_markBody_7 : decode cX1_markBody 7 = .ok (.ifCond .lt 18, 3) := tb_d tk_X1_markBody_1 3 (7, .ifCond .lt 18, 3) rfl
theorem dX1_markBody_10 : decode cX1_markBody 10 = .ok (.aload_n 0, 1) := tb_d tk_X1_markBody_1 4 (10, .aload_n 0, 1) rfl
theorem dX1_markBody_11 : decode cX1_markBody 11 = .ok (.getfield 22, 3) := tb_d tk_X1_markBody_1 5 (11, .getfield 22, 3) rfl
theorem dX1_markBody_14 : decode cX1_markBody 14 = .ok (.iconst 5, 1) := tb_d tk_X1_markBody_1 6 (14, .iconst 5, 1) rfl
theorem dX1_markBody_15 : decode cX1_markBody 15 = .ok (.if_icmp .gt 10, 3) := tb_d tk_X1_markBody_1 7 (15, .if_icmp .gt 10, 3) rfl
theorem dX1_markBody_18 : decode cX1_markBody 18 = .ok (.aload_n 0, 1) := tb_d tk_X1_markBody_1 8 (18, .aload_n 0, 1) rfl
theorem dX1_markBody_19 : decode cX1_markBody 19 = .ok (.getfield 22, 3) := tb_d tk_X1_markBody_1 9 (19, .getfield 22, 3) rfl
theorem dX1_markBody_22 : decode cX1_markBody 22 = .ok (.goto 4, 3) := tb_d tk_X1_markBody_1 10 (22, .goto 4, 3) rfl
theorem dX1_markBody_25 : decode cX1_markBody 25 = .ok (.iconst 0, 1) := tb_d tk_X1_markBody_1 11 (25, .iconst 0, 1) rfl
theorem dX1_markBody_26 : decode cX1_markBody 26 = .ok (.iaload, 1) := tb_d tk_X1_markBody_1 12 (26, .iaload, 1) rfl
theorem dX1_markBody_27 : decode cX1_markBody 27 = .ok (.ireturn, 1) := tb_d tk_X1_markBody_1 13 (27, .ireturn, 1) rfl
def tb_X1_leave_1 : List (Nat × Instr × Nat) := [(0, .aload_n 0, 1), (1, .getfield 31, 3), (4, .bipush 16, 2), (6, .if_icmp .ge 23, 3), (9, .aload_n 0, 1), (10, .getfield 11, 3), (13, .aload_n 0, 1), (14, .getfield 31, 3), (17, .iload_n 1, 1), (18, .iastore, 1), (19, .aload_n 0, 1), (20, .dup, 1), (21, .getfield 31, 3), (24, .iconst 1, 1), (25, .iadd, 1), (26, .putfield 31, 3), (29, .return_, 1)]
set_option maxRecDepth 100000 in
theorem tk_X1_leave_1 : (tb_X1_leave_1.all fun q => decide (decode cX1_leave q.1 = .ok q.2)) = true := by decide +kernel
theorem dX1_leave_0 : decode cX1_leave 0 = .ok (.aload_n 0, 1) := tb_d tk_X1_leave_1 0 (0, .aload_n 0, 1) rfl
theorem dX1_leave_1 : decode cX1_leave 1 = .ok (.getfield 31, 3) := tb_d tk_X1_leave_1 1 (1, .getfield 31, 3) rfl
theorem dX1_leave_4 : decode cX1_leave 4 = .ok (.bipush 16, 2) := tb_d tk_X1_leave_1 2 (4, .bipush 16, 2) rfl
theorem dX1_leave_6 : decode cX1_leave 6 = .ok (.if_icmp .ge 23, 3) := tb_d tk_X1_leave_1 3 (6, .if_icmp .ge 23, 3) rfl
theorem dX1_leave_9 : decode cX1_leave 9 = .ok (.aload_n 0, 1) := tb_d tk_X1_leave_1 4 (9, .aload_n 0, 1) rfl
theorem dX1_leave_10 : decode cX1_leave 10 = .ok (.getfield 11, 3) := tb_d tk_X1_leave_1 5 (10, .getfield 11, 3) rfl
theorem dX1_leave_13 : decode cX1_leave 13 = .ok (.aload_n 0, 1) := tb_d tk_X1_leave_1 6 (13, .aload_n 0, 1) rfl
theorem dX1_leave_14 : decode cX1_leave 14 = .ok (.getfield 31, 3) := tb_d tk_X1_leave_1 7 (14, .getfield 31, 3) rfl
theorem dX1_leave_17 : decode cX1_leave 17 = .ok (.iload_n 1, 1) := tb_d tk_X1_leave_1 8 (17, .iload_n 1, 1) rfl
theorem dX1_leave_18 : decode cX1_leave 18 = .ok (.iastore, 1) := tb_d tk_X1_leave_1 9 (18, .iastore, 1) rfl
theorem dX1_leave_19 : decode cX1_leave 19 = .ok (.aload_n 0, 1) := tb_d tk_X1_leave_1 10 (19, .aload_n 0, 1) rfl
theorem dX1_leave_20 : decode cX1_leave 20 = .ok (.dup, 1) := tb_d tk_X1_leave_1 11 (20, .dup, 1) rfl
theorem dX1_leave_21 : decode cX1_leave 21 = .ok (.getfield 31, 3) := tb_d tk_X1_leave_1 12 (21, .getfield 31, 3) rfl
theorem dX1_leave_24 : decode cX1_leave 24 = .ok (.iconst 1, 1) := tb_d tk_X1_leave_1 13 (24, .iconst 1, 1) rfl
theorem dX1_leave_25 : decode cX1_leave 25 = .ok (.iadd, 1) := tb_d tk_X1_leave_1 14 (25, .iadd, 1) rfl
theorem dX1_leave_26 : decode cX1_leave 26 = .ok (.putfield 31, 3) := tb_d tk_X1_leave_1 15 (26, .putfield 31, 3) rfl
theorem dX1_leave_29 : decode cX1_leave 29 = .ok (.return_, 1) := tb_d tk_X1_leave_1 16 (29, .return_, 1) rfl
theorem ggX1_given_X1_leave : GoodIn wsX1_given wsX1_leave := fun w h => ⟨List.mem_cons_of_mem _ (List.mem_append_right _ (List.mem_append_right _ (List.mem_append_right _ (List.mem_append_right _ (List.mem_append_right _ (List.mem_append_right _ (List.mem_append_left _ h))))))), good_of_word (gdX1_leave w h)⟩
set_option maxRecDepth 20000 in
theorem gX1_given_X1_leave : GoodIn wsX1_given (wsV RX1 51 RX1 yX1_leave wsX1_leave) := goodIn_app (a := bkV RX1 51 RX1 yX1_leave) (fun w h => ⟨List.mem_cons_of_mem _ (List.mem_append_right _ (List.mem_append_left _ h)), good_of_word (gd_bV _ _ _ _ w h)⟩) ggX1_given_X1_leave
theorem ggX1_given_X1_given : GoodIn wsX1_given wsX1_given := fun w h => ⟨h, good_of_word (gdX1_given w h)⟩
set_option maxRecDepth 20000 in
theorem gX1_given_X1_given : GoodIn wsX1_given (va_wsS RX1 41 yX1_given wsX1_given) := goodIn_app (a := bkS RX1 41 yX1_given) (fun w h => ⟨List.mem_cons_of_mem _ (List.mem_append_right _ (List.mem_append_right _ (List.mem_append_left _ h))), good_of_word (gd_bS _ _ _ w h)⟩) ggX1_given_X1_given
theorem ggX1_given_X1_markBody : GoodIn wsX1_given wsX1_markBody := fun w h => ⟨List.mem_cons_of_mem _ (List.mem_append_right _ (List.mem_append_right _ (List.mem_append_right _ (List.mem_append_right _ (List.mem_append_right _ (List.mem_append_right _ (List.mem_append_right _ (List.mem_append_left _ h)))))))), good_of_word (gdX1_markBody w h)⟩
set_option maxRecDepth 20000 in
theorem gX1_given_X1_markBody : GoodIn wsX1_given (wsV RX1 38 RX1 yX1_markBody wsX1_markBody) := goodIn_app (a := bkV RX1 38 RX1 yX1_markBody) (fun w h => ⟨List.mem_cons_of_mem _ (List.mem_append_right _ (List.mem_append_right _ (List.mem_append_right _ (List.mem_append_left _ h)))), good_of_word (gd_bV _ _ _ _ w h)⟩) ggX1_given_X1_markBody
theorem ggX1_given_X1_sizeBody : GoodIn wsX1_given wsX1_sizeBody := fun w h => ⟨List.mem_cons_of_mem _ (List.mem_append_right _ (List.mem_append_right _ (List.mem_append_right _ (List.mem_append_right _ (List.mem_append_right _ (List.mem_append_right _ (List.mem_append_right _ (List.mem_append_right _ (List.mem_append_left _ h))))))))), good_of_word (gdX1_sizeBody w h)⟩
set_option maxRecDepth 20000 in
theorem gX1_given_X1_sizeBody : GoodIn wsX1_given (wsV RX1 34 RX1 yX1_sizeBody wsX1_sizeBody) := goodIn_app (a := bkV RX1 34 RX1 yX1_sizeBody) (fun w h => ⟨List.mem_cons_of_mem _ (List.mem_append_right _ (List.mem_append_right _ (List.mem_append_right _ (List.mem_append_right _ (List.mem_append_left _ h))))), good_of_word (gd_bV _ _ _ _ w h)⟩) ggX1_given_X1_sizeBody
def tb_X1_given_1 : List (Nat × Instr × Nat) := [(0, .iload_n 2, 1), (1, .bipush 20, 2), (3, .if_icmp .le 5, 3), (6, .iconst 0, 1), (7, .ireturn, 1), (8, .aload_n 0, 1), (9, .iload_n 1, 1), (10, .invokevirtual 51, 3), (13, .iload_n 2, 1), (14, .iconst 1, 1), (15, .iadd, 1), (16, .istore_n 3, 1), (17, .iload_n 1, 1), (18, .tableswitch 185 10 24 #[74, 79, 97, 106, 117, 185, 185, 185, 185, 185, 127, 132, 145, 157, 175], 74), (92, .aload_n 0, 1), (93, .getfield 25, 3), (96, .ireturn, 1), (97, .aload_n 0, 1), (98, .bipush 10, 2), (100, .iload_n 3, 1), (101, .invokestatic 41, 3), (104, .aload_n 0, 1), (105, .aload_n 0, 1), (106, .invokevirtual 38, 3), (109, .iload_n 3, 1), (110, .invokestatic 41, 3), (113, .iadd, 1), (114, .ireturn, 1), (115, .aload_n 0, 1), (116, .bipush 11, 2), (118, .iload_n 3, 1), (119, .invokestatic 41, 3), (122, .ineg, 1), (123, .ireturn, 1), (124, .aload_n 0, 1), (125, .bipush 10, 2), (127, .iload_n 3, 1), (128, .invokestatic 41, 3), (131, .bipush 100, 2), (133, .isub, 1)]
set_option maxRecDepth 100000 in
theorem tk_X1_given_1 : (tb_X1_given_1.all fun q => decide (decode cX1_given q.1 = .ok q.2)) = true := by decide +kernel
theorem dX1_given_0 : decode cX1_given 0 = .ok (.iload_n 2, 1) := tb_d tk_X1_given_1 0 (0, .iload_n 2, 1) rfl
theorem dX1_given_1 : decode cX1_given 1 = .ok (.bipush 20, 2) := tb_d tk_X1_given_1 1 (1, .bipush 20, 2) rfl
theorem dX1_given_3 : decode cX1_given 3 = .ok (.if_icmp .le 5, 3) := tb_d tk_X1_given_1 2 (3, .if_icmp .le 5, 3) rfl
theorem dX1_given_6 : decode cX1_given 6 = .ok (.iconst 0, 1) := tb_d tk_X1_given_1 3 (6, .iconst 0, 1) rfl
theorem dX1_given_7 : decode cX1_given 7 = .ok (.ireturn, 1) := tb_d tk_X1_given_1 4 (7, .ireturn, 1) rfl
theorem dX1_given_8 : decode cX1_given 8 = .ok (.aload_n 0, 1) := tb_d tk_X1_given_1 5 (8, .aload_n 0, 1) rfl
theorem dX1_given_9 : decode cX1_given 9 = .ok (.iload_n 1, 1) := tb_d tk_X1_given_1 6 (9, .iload_n 1, 1) rfl
theorem dX1_given_10 : decode cX1_given 10 = .ok (.invokevirtual 51, 3) := tb_d tk_X1_given_1 7 (10, .invokevirtual 51, 3) rfl
theorem dX1_given_13 : decode cX1_given 13 = .ok (.iload_n 2, 1) := tb_d tk_X1_given_1 8 (13, .iload_n 2, 1) rfl
theorem dX1_given_14 : decode cX1_given 14 = .ok (.iconst 1, 1) := tb_d tk_X1_given_1 9 (14, .iconst 1, 1) rfl
theorem dX1_given_15 : decode cX1_given 15 = .ok (.iadd, 1) := tb_d tk_X1_given_1 10 (15, .iadd, 1) rfl
theorem dX1_given_16 : decode cX1_given 16 = .ok (.istore_n 3, 1) := tb_d tk_X1_given_1 11 (16, .istore_n 3, 1) rfl
theorem dX1_given_17 : decode cX1_given 17 = .ok (.iload_n 1, 1) := tb_d tk_X1_given_1 12 (17, .iload_n 1, 1) rfl
theorem dX1_given_18 : decode cX1_given 18 = .ok (.tableswitch 185 10 24 #[74, 79, 97, 106, 117, 185, 185, 185, 185, 185, 127, 132, 145, 157, 175], 74) := tb_d tk_X1_given_1 13 (18, .tableswitch 185 10 24 #[74, 79, 97, 106, 117, 185, 185, 185, 185, 185, 127, 132, 145, 157, 175], 74) rfl
theorem dX1_given_92 : decode cX1_given 92 = .ok (.aload_n 0, 1) := tb_d tk_X1_given_1 14 (92, .aload_n 0, 1) rfl
theorem dX1_given_93 : decode cX1_given 93 = .ok (.getfield 25, 3) := tb_d tk_X1_given_1 15 (93, .getfield 25, 3) rfl
theorem dX1_given_96 : decode cX1_given 96 = .ok (.ireturn, 1) := tb_d tk_X1_given_1 16 (96, .ireturn, 1) rfl
theorem dX1_given_97 : decode cX1_given 97 = .ok (.aload_n 0, 1) := tb_d tk_X1_given_1 17 (97, .aload_n 0, 1) rfl
theorem dX1_given_98 : decode cX1_given 98 = .ok (.bipush 10, 2) := tb_d tk_X1_given_1 18 (98, .bipush 10, 2) rfl
theorem dX1_given_100 : decode cX1_given 100 = .ok (.iload_n 3, 1) := tb_d tk_X1_given_1 19 (100, .iload_n 3, 1) rfl
theorem dX1_given_101 : decode cX1_given 101 = .ok (.invokestatic 41, 3) := tb_d tk_X1_given_1 20 (101, .invokestatic 41, 3) rfl
theorem dX1_given_104 : decode cX1_given 104 = .ok (.aload_n 0, 1) := tb_d tk_X1_given_1 21 (104, .aload_n 0, 1) rfl
theorem dX1_given_105 : decode cX1_given 105 = .ok (.aload_n 0, 1) := tb_d tk_X1_given_1 22 (105, .aload_n 0, 1) rfl
theorem dX1_given_106 : decode cX1_given 106 = .ok (.invokevirtual 38, 3) := tb_d tk_X1_given_1 23 (106, .invokevirtual 38, 3) rfl
theorem dX1_given_109 : decode cX1_given 109 = .ok (.iload_n 3, 1) := tb_d tk_X1_given_1 24 (109, .iload_n 3, 1) rfl
theorem dX1_given_110 : decode cX1_given 110 = .ok (.invokestatic 41, 3) := tb_d tk_X1_given_1 25 (110, .invokestatic 41, 3) rfl
theorem dX1_given_113 : decode cX1_given 113 = .ok (.iadd, 1) := tb_d tk_X1_given_1 26 (113, .iadd, 1) rfl
theorem dX1_given_114 : decode cX1_given 114 = .ok (.ireturn, 1) := tb_d tk_X1_given_1 27 (114, .ireturn, 1) rfl
theorem dX1_given_115 : decode cX1_given 115 = .ok (.aload_n 0, 1) := tb_d tk_X1_given_1 28 (115, .aload_n 0, 1) rfl
theorem dX1_given_116 : decode cX1_given 116 = .ok (.bipush 11, 2) := tb_d tk_X1_given_1 29 (116, .bipush 11, 2) rfl
theorem dX1_given_118 : decode cX1_given 118 = .ok (.iload_n 3, 1) := tb_d tk_X1_given_1 30 (118, .iload_n 3, 1) rfl
theorem dX1_given_119 : decode cX1_given 119 = .ok (.invokestatic 41, 3) := tb_d tk_X1_given_1 31 (119, .invokestatic 41, 3) rfl
theorem dX1_given_122 : decode cX1_given 122 = .ok (.ineg, 1) := tb_d tk_X1_given_1 32 (122, .ineg, 1) rfl
theorem dX1_given_123 : decode cX1_given 123 = .ok (.ireturn, 1) := tb_d tk_X1_given_1 33 (123, .ireturn, 1) rfl
theorem dX1_given_124 : decode cX1_given 124 = .ok (.aload_n 0, 1) := tb_d tk_X1_given_1 34 (124, .aload_n 0, 1) rfl
theorem dX1_given_125 : decode cX1_given 125 = .ok (.bipush 10, 2) := tb_d tk_X1_given_1 35 (125, .bipush 10, 2) rfl
theorem dX1_given_127 : decode cX1_given 127 = .ok (.iload_n 3, 1) := tb_d tk_X1_given_1 36 (127, .iload_n 3, 1) rfl
theorem dX1_given_128 : decode cX1_given 128 = .ok (.invokestatic 41, 3) := tb_d tk_X1_given_1 37 (128, .invokestatic 41, 3) rfl
theorem dX1_given_131 : decode cX1_given 131 = .ok (.bipush 100, 2) := tb_d tk_X1_given_1 38 (131, .bipush 100, 2) rfl
theorem dX1_given_133 : decode cX1_given 133 = .ok (.isub, 1) := tb_d tk_X1_given_1 39 (133, .isub, 1) rfl
def tb_X1_given_2 : List (Nat × Instr × Nat) := [(134, .ireturn, 1), (135, .aload_n 0, 1), (136, .bipush 13, 2), (138, .iload_n 3, 1), (139, .invokestatic 41, 3), (142, .iconst 2, 1), (143, .imul, 1), (144, .ireturn, 1), (145, .aload_n 0, 1), (146, .getfield 18, 3), (149, .ireturn, 1), (150, .aload_n 0, 1), (151, .bipush 20, 2), (153, .iload_n 3, 1), (154, .invokestatic 41, 3), (157, .aload_n 0, 1), (158, .getfield 28, 3), (161, .iadd, 1), (162, .ireturn, 1), (163, .aload_n 0, 1), (164, .bipush 21, 2), (166, .iload_n 3, 1), (167, .invokestatic 41, 3), (170, .sipush 1000, 3), (173, .isub, 1), (174, .ireturn, 1), (175, .aload_n 0, 1), (176, .bipush 20, 2), (178, .iload_n 3, 1), (179, .invokestatic 41, 3), (182, .aload_n 0, 1), (183, .aload_n 0, 1), (184, .invokevirtual 34, 3), (187, .iload_n 3, 1), (188, .invokestatic 41, 3), (191, .isub, 1), (192, .ireturn, 1), (193, .aload_n 0, 1), (194, .bipush 21, 2), (196, .iload_n 3, 1)]
set_option maxRecDepth 100000 in
theorem tk_X1_given_2 : (tb_X1_given_2.all fun q => decide (decode cX1_given q.1 = .ok q.2)) = true := by decide +kernel
theorem dX1_given_134 : decode cX1_given 134 = .ok (.ireturn, 1) := tb_d tk_X1_given_2 0 (134, .ireturn, 1) rfl
theorem dX1_given_135 : decode cX1_given 135 = .ok (.aload_n 0, 1) := tb_d tk_X1_given_2 1 (135, .aload_n 0, 1) rfl
theorem dX1_given_136 : decode cX1_given 136 = .ok (.bipush 13, 2) := tb_d tk_X1_given_2 2 (136, .bipush 13, 2) rfl
theorem dX1_given_138 : decode cX1_given 138 = .ok (.iload_n 3, 1) := tb_d tk_X1_given_2 3 (138, .iload_n 3, 1) rfl
theorem dX1_given_139 : decode cX1_given 139 = .ok (.invokestatic 41, 3) := tb_d tk_X1_given_2 4 (139, .invokestatic 41, 3) rfl
theorem dX1_given_142 : decode cX1_given 142 = .ok (.iconst 2, 1) := tb_d tk_X1_given_2 5 (142, .iconst 2, 1) rfl
theorem dX1_given_143 : decode cX1_given 143 = .ok (.imul, 1) := tb_d tk_X1_given_2 6 (143, .imul, 1) rfl
theorem dX1_given_144 : decode cX1_given 144 = .ok (.ireturn, 1) := tb_d tk_X1_given_2 7 (144, .ireturn, 1) rfl
theorem dX1_given_145 : decode cX1_given 145 = .ok (.aload_n 0, 1) := tb_d tk_X1_given_2 8 (145, .aload_n 0, 1) rfl
theorem dX1_given_146 : decode cX1_given 146 = .ok (.getfield 18, 3) := tb_d tk_X1_given_2 9 (146, .getfield 18, 3) rfl
theorem dX1_given_149 : decode cX1_given 149 = .ok (.ireturn, 1) := tb_d tk_X1_given_2 10 (149, .ireturn, 1) rfl
theorem dX1_given_150 : decode cX1_given 150 = .ok (.aload_n 0, 1) := tb_d tk_X1_given_2 11 (150, .aload_n 0, 1) rfl
theorem dX1_given_151 : decode cX1_given 151 = .ok (.bipush 20, 2) := tb_d tk_X1_given_2 12 (151, .bipush 20, 2) rfl
theorem dX1_given_153 : decode cX1_given 153 = .ok (.iload_n 3, 1) := tb_d tk_X1_given_2 13 (153, .iload_n 3, 1) rfl
theorem dX1_given_154 : decode cX1_given 154 = .ok (.invokestatic 41, 3) := tb_d tk_X1_given_2 14 (154, .invokestatic 41, 3) rfl
theorem dX1_given_157 : decode cX1_given 157 = .ok (.aload_n 0, 1) := tb_d tk_X1_given_2 15 (157, .aload_n 0, 1) rfl
theorem dX1_given_158 : decode cX1_given 158 = .ok (.getfield 28, 3) := tb_d tk_X1_given_2 16 (158, .getfield 28, 3) rfl
theorem dX1_given_161 : decode cX1_given 161 = .ok (.iadd, 1) := tb_d tk_X1_given_2 17 (161, .iadd, 1) rfl
theorem dX1_given_162 : decode cX1_given 162 = .ok (.ireturn, 1) := tb_d tk_X1_given_2 18 (162, .ireturn, 1) rfl
theorem dX1_given_163 : decode cX1_given 163 = .ok (.aload_n 0, 1) := tb_d tk_X1_given_2 19 (163, .aload_n 0, 1) rfl
theorem dX1_given_164 : decode cX1_given 164 = .ok (.bipush 21, 2) := tb_d tk_X1_given_2 20 (164, .bipush 21, 2) rfl
theorem dX1_given_166 : decode cX1_given 166 = .ok (.iload_n 3, 1) := tb_d tk_X1_given_2 21 (166, .iload_n 3, 1) rfl
theorem dX1_given_167 : decode cX1_given 167 = .ok (.invokestatic 41, 3) := tb_d tk_X1_given_2 22 (167, .invokestatic 41, 3) rfl
theorem dX1_given_170 : decode cX1_given 170 = .ok (.sipush 1000, 3) := tb_d tk_X1_given_2 23 (170, .sipush 1000, 3) rfl
theorem dX1_given_173 : decode cX1_given 173 = .ok (.isub, 1) := tb_d tk_X1_given_2 24 (173, .isub, 1) rfl
theorem dX1_given_174 : decode cX1_given 174 = .ok (.ireturn, 1) := tb_d tk_X1_given_2 25 (174, .ireturn, 1) rfl
theorem dX1_given_175 : decode cX1_given 175 = .ok (.aload_n 0, 1) := tb_d tk_X1_given_2 26 (175, .aload_n 0, 1) rfl
theorem dX1_given_176 : decode cX1_given 176 = .ok (.bipush 20, 2) := tb_d tk_X1_given_2 27 (176, .bipush 20, 2) rfl
theorem dX1_given_178 : decode cX1_given 178 = .ok (.iload_n 3, 1) := tb_d tk_X1_given_2 28 (178, .iload_n 3, 1) rfl
theorem dX1_given_179 : decode cX1_given 179 = .ok (.invokestatic 41, 3) := tb_d tk_X1_given_2 29 (179, .invokestatic 41, 3) rfl
theorem dX1_given_182 : decode cX1_given 182 = .ok (.aload_n 0, 1) := tb_d tk_X1_given_2 30 (182, .aload_n 0, 1) rfl
theorem dX1_given_183 : decode cX1_given 183 = .ok (.aload_n 0, 1) := tb_d tk_X1_given_2 31 (183, .aload_n 0, 1) rfl
theorem dX1_given_184 : decode cX1_given 184 = .ok (.invokevirtual 34, 3) := tb_d tk_X1_given_2 32 (184, .invokevirtual 34, 3) rfl
theorem dX1_given_187 : decode cX1_given 187 = .ok (.iload_n 3, 1) := tb_d tk_X1_given_2 33 (187, .iload_n 3, 1) rfl
theorem dX1_given_188 : decode cX1_given 188 = .ok (.invokestatic 41, 3) := tb_d tk_X1_given_2 34 (188, .invokestatic 41, 3) rfl
theorem dX1_given_191 : decode cX1_given 191 = .ok (.isub, 1) := tb_d tk_X1_given_2 35 (191, .isub, 1) rfl
theorem dX1_given_192 : decode cX1_given 192 = .ok (.ireturn, 1) := tb_d tk_X1_given_2 36 (192, .ireturn, 1) rfl
theorem dX1_given_193 : decode cX1_given 193 = .ok (.aload_n 0, 1) := tb_d tk_X1_given_2 37 (193, .aload_n 0, 1) rfl
theorem dX1_given_194 : decode cX1_given 194 = .ok (.bipush 21, 2) := tb_d tk_X1_given_2 38 (194, .bipush 21, 2) rfl
theorem dX1_given_196 : decode cX1_given 196 = .ok (.iload_n 3, 1) := tb_d tk_X1_given_2 39 (196, .iload_n 3, 1) rfl
def tb_X1_given_3 : List (Nat × Instr × Nat) := [(197, .invokestatic 41, 3), (200, .iconst 2, 1), (201, .imul, 1), (202, .ireturn, 1), (203, .iconst 0, 1), (204, .ireturn, 1)]
set_option maxRecDepth 100000 in
theorem tk_X1_given_3 : (tb_X1_given_3.all fun q => decide (decode cX1_given q.1 = .ok q.2)) = true := by decide +kernel
theorem dX1_given_197 : decode cX1_given 197 = .ok (.invokestatic 41, 3) := tb_d tk_X1_given_3 0 (197, .invokestatic 41, 3) rfl
theorem dX1_given_200 : decode cX1_given 200 = .ok (.iconst 2, 1) := tb_d tk_X1_given_3 1 (200, .iconst 2, 1) rfl
theorem dX1_given_201 : decode cX1_given 201 = .ok (.imul, 1) := tb_d tk_X1_given_3 2 (201, .imul, 1) rfl
theorem dX1_given_202 : decode cX1_given 202 = .ok (.ireturn, 1) := tb_d tk_X1_given_3 3 (202, .ireturn, 1) rfl
theorem dX1_given_203 : decode cX1_given 203 = .ok (.iconst 0, 1) := tb_d tk_X1_given_3 4 (203, .iconst 0, 1) rfl
theorem dX1_given_204 : decode cX1_given 204 = .ok (.ireturn, 1) := tb_d tk_X1_given_3 5 (204, .ireturn, 1) rfl
theorem ggX2_init_X4_init : GoodIn wsX2_init wsX4_init := fun w h => ⟨List.mem_cons_of_mem _ (List.mem_append_right _ (List.mem_append_right _ (List.mem_append_right _ (List.mem_append_left _ h)))), good_of_word (gdX4_init w h)⟩
set_option maxRecDepth 20000 in
theorem gX2_init_X4_init_n23 : GoodIn wsX2_init (wsX4_init) := ggX2_init_X4_init
def tb_X2_init_1 : List (Nat × Instr × Nat) := [(0, .aload_n 0, 1), (1, .invokespecial 3, 3), (4, .aload_n 0, 1), (5, .bipush 18, 2), (7, .newarray .int, 2), (9, .putfield 9, 3), (12, .aload_n 0, 1), (13, .iconst 4, 1), (14, .newarray .int, 2), (16, .putfield 15, 3), (19, .aload_n 0, 1), (20, .iconst 4, 1), (21, .newarray .int, 2), (23, .putfield 18, 3), (26, .aload_n 0, 1), (27, .new 21, 3), (30, .dup, 1), (31, .invokespecial 23, 3), (34, .putfield 24, 3), (37, .return_, 1)]
set_option maxRecDepth 100000 in
theorem tk_X2_init_1 : (tb_X2_init_1.all fun q => decide (decode cX2_init q.1 = .ok q.2)) = true := by decide +kernel
theorem dX2_init_0 : decode cX2_init 0 = .ok (.aload_n 0, 1) := tb_d tk_X2_init_1 0 (0, .aload_n 0, 1) rfl
theorem dX2_init_1 : decode cX2_init 1 = .ok (.invokespecial 3, 3) := tb_d tk_X2_init_1 1 (1, .invokespecial 3, 3) rfl
theorem dX2_init_4 : decode cX2_init 4 = .ok (.aload_n 0, 1) := tb_d tk_X2_init_1 2 (4, .aload_n 0, 1) rfl
theorem dX2_init_5 : decode cX2_init 5 = .ok (.bipush 18, 2) := tb_d tk_X2_init_1 3 (5, .bipush 18, 2) rfl
theorem dX2_init_7 : decode cX2_init 7 = .ok (.newarray .int, 2) := tb_d tk_X2_init_1 4 (7, .newarray .int, 2) rfl
theorem dX2_init_9 : decode cX2_init 9 = .ok (.putfield 9, 3) := tb_d tk_X2_init_1 5 (9, .putfield 9, 3) rfl
theorem dX2_init_12 : decode cX2_init 12 = .ok (.aload_n 0, 1) := tb_d tk_X2_init_1 6 (12, .aload_n 0, 1) rfl
theorem dX2_init_13 : decode cX2_init 13 = .ok (.iconst 4, 1) := tb_d tk_X2_init_1 7 (13, .iconst 4, 1) rfl
theorem dX2_init_14 : decode cX2_init 14 = .ok (.newarray .int, 2) := tb_d tk_X2_init_1 8 (14, .newarray .int, 2) rfl
theorem dX2_init_16 : decode cX2_init 16 = .ok (.putfield 15, 3) := tb_d tk_X2_init_1 9 (16, .putfield 15, 3) rfl
theorem dX2_init_19 : decode cX2_init 19 = .ok (.aload_n 0, 1) := tb_d tk_X2_init_1 10 (19, .aload_n 0, 1) rfl
theorem dX2_init_20 : decode cX2_init 20 = .ok (.iconst 4, 1) := tb_d tk_X2_init_1 11 (20, .iconst 4, 1) rfl
theorem dX2_init_21 : decode cX2_init 21 = .ok (.newarray .int, 2) := tb_d tk_X2_init_1 12 (21, .newarray .int, 2) rfl
theorem dX2_init_23 : decode cX2_init 23 = .ok (.putfield 18, 3) := tb_d tk_X2_init_1 13 (23, .putfield 18, 3) rfl
theorem dX2_init_26 : decode cX2_init 26 = .ok (.aload_n 0, 1) := tb_d tk_X2_init_1 14 (26, .aload_n 0, 1) rfl
theorem dX2_init_27 : decode cX2_init 27 = .ok (.new 21, 3) := tb_d tk_X2_init_1 15 (27, .new 21, 3) rfl
theorem dX2_init_30 : decode cX2_init 30 = .ok (.dup, 1) := tb_d tk_X2_init_1 16 (30, .dup, 1) rfl
theorem dX2_init_31 : decode cX2_init 31 = .ok (.invokespecial 23, 3) := tb_d tk_X2_init_1 17 (31, .invokespecial 23, 3) rfl
theorem dX2_init_34 : decode cX2_init 34 = .ok (.putfield 24, 3) := tb_d tk_X2_init_1 18 (34, .putfield 24, 3) rfl
theorem dX2_init_37 : decode cX2_init 37 = .ok (.return_, 1) := tb_d tk_X2_init_1 19 (37, .return_, 1) rfl
theorem ggX2_become_X4_become : GoodIn wsX2_become wsX4_become := fun w h => ⟨List.mem_cons_of_mem _ (List.mem_append_right _ (List.mem_append_right _ (List.mem_append_right _ (List.mem_append_right _ (List.mem_append_left _ h))))), good_of_word (gdX4_become w h)⟩
set_option maxRecDepth 20000 in
theorem gX2_become_X4_become : GoodIn wsX2_become (wsV RX2 34 RX4 yX4_become wsX4_become) := goodIn_app (a := bkV RX2 34 RX4 yX4_become) (fun w h => ⟨List.mem_cons_of_mem _ (List.mem_append_right _ (List.mem_append_left _ h)), good_of_word (gd_bV _ _ _ _ w h)⟩) ggX2_become_X4_become
def tb_X2_become_1 : List (Nat × Instr × Nat) := [(0, .aload_n 1, 1), (1, .getfield 9, 3), (4, .iconst 0, 1), (5, .aload_n 0, 1), (6, .getfield 9, 3), (9, .iconst 0, 1), (10, .bipush 18, 2), (12, .invokestatic 28, 3), (15, .aload_n 1, 1), (16, .getfield 15, 3), (19, .iconst 0, 1), (20, .aload_n 0, 1), (21, .getfield 15, 3), (24, .iconst 0, 1), (25, .iconst 4, 1), (26, .invokestatic 28, 3), (29, .aload_n 1, 1), (30, .getfield 18, 3), (33, .iconst 0, 1), (34, .aload_n 0, 1), (35, .getfield 18, 3), (38, .iconst 0, 1), (39, .iconst 4, 1), (40, .invokestatic 28, 3), (43, .aload_n 0, 1), (44, .getfield 24, 3), (47, .aload_n 1, 1), (48, .getfield 24, 3), (51, .invokevirtual 34, 3), (54, .aload_n 0, 1), (55, .aload_n 1, 1), (56, .getfield 38, 3), (59, .putfield 38, 3), (62, .aload_n 0, 1), (63, .aload_n 1, 1), (64, .getfield 42, 3), (67, .putfield 42, 3), (70, .aload_n 0, 1), (71, .aload_n 1, 1), (72, .getfield 45, 3)]
set_option maxRecDepth 100000 in
theorem tk_X2_become_1 : (tb_X2_become_1.all fun q => decide (decode cX2_become q.1 = .ok q.2)) = true := by decide +kernel
theorem dX2_become_0 : decode cX2_become 0 = .ok (.aload_n 1, 1) := tb_d tk_X2_become_1 0 (0, .aload_n 1, 1) rfl
theorem dX2_become_1 : decode cX2_become 1 = .ok (.getfield 9, 3) := tb_d tk_X2_become_1 1 (1, .getfield 9, 3) rfl
theorem dX2_become_4 : decode cX2_become 4 = .ok (.iconst 0, 1) := tb_d tk_X2_become_1 2 (4, .iconst 0, 1) rfl
theorem dX2_become_5 : decode cX2_become 5 = .ok (.aload_n 0, 1) := tb_d tk_X2_become_1 3 (5, .aload_n 0, 1) rfl
theorem dX2_become_6 : decode cX2_become 6 = .ok (.getfield 9, 3) := tb_d tk_X2_become_1 4 (6, .getfield 9, 3) rfl
theorem dX2_become_9 : decode cX2_become 9 = .ok (.iconst 0, 1) := tb_d tk_X2_become_1 5 (9, .iconst 0, 1) rfl
theorem dX2_become_10 : decode cX2_become 10 = .ok (.bipush 18, 2) := tb_d tk_X2_become_1 6 (10, .bipush 18, 2) rfl
theorem dX2_become_12 : decode cX2_become 12 = .ok (.invokestatic 28, 3) := tb_d tk_X2_become_1 7 (12, .invokestatic 28, 3) rfl
theorem dX2_become_15 : decode cX2_become 15 = .ok (.aload_n 1, 1) := tb_d tk_X2_become_1 8 (15, .aload_n 1, 1) rfl
theorem dX2_become_16 : decode cX2_become 16 = .ok (.getfield 15, 3) := tb_d tk_X2_become_1 9 (16, .getfield 15, 3) rfl
theorem dX2_become_19 : decode cX2_become 19 = .ok (.iconst 0, 1) := tb_d tk_X2_become_1 10 (19, .iconst 0, 1) rfl
theorem dX2_become_20 : decode cX2_become 20 = .ok (.aload_n 0, 1) := tb_d tk_X2_become_1 11 (20, .aload_n 0, 1) rfl
theorem dX2_become_21 : decode cX2_become 21 = .ok (.getfield 15, 3) := tb_d tk_X2_become_1 12 (21, .getfield 15, 3) rfl
theorem dX2_become_24 : decode cX2_become 24 = .ok (.iconst 0, 1) := tb_d tk_X2_become_1 13 (24, .iconst 0, 1) rfl
theorem dX2_become_25 : decode cX2_become 25 = .ok (.iconst 4, 1) := tb_d tk_X2_become_1 14 (25, .iconst 4, 1) rfl
theorem dX2_become_26 : decode cX2_become 26 = .ok (.invokestatic 28, 3) := tb_d tk_X2_become_1 15 (26, .invokestatic 28, 3) rfl
theorem dX2_become_29 : decode cX2_become 29 = .ok (.aload_n 1, 1) := tb_d tk_X2_become_1 16 (29, .aload_n 1, 1) rfl
theorem dX2_become_30 : decode cX2_become 30 = .ok (.getfield 18, 3) := tb_d tk_X2_become_1 17 (30, .getfield 18, 3) rfl
theorem dX2_become_33 : decode cX2_become 33 = .ok (.iconst 0, 1) := tb_d tk_X2_become_1 18 (33, .iconst 0, 1) rfl
theorem dX2_become_34 : decode cX2_become 34 = .ok (.aload_n 0, 1) := tb_d tk_X2_become_1 19 (34, .aload_n 0, 1) rfl
theorem dX2_become_35 : decode cX2_become 35 = .ok (.getfield 18, 3) := tb_d tk_X2_become_1 20 (35, .getfield 18, 3) rfl
theorem dX2_become_38 : decode cX2_become 38 = .ok (.iconst 0, 1) := tb_d tk_X2_become_1 21 (38, .iconst 0, 1) rfl
theorem dX2_become_39 : decode cX2_become 39 = .ok (.iconst 4, 1) := tb_d tk_X2_become_1 22 (39, .iconst 4, 1) rfl
theorem dX2_become_40 : decode cX2_become 40 = .ok (.invokestatic 28, 3) := tb_d tk_X2_become_1 23 (40, .invokestatic 28, 3) rfl
theorem dX2_become_43 : decode cX2_become 43 = .ok (.aload_n 0, 1) := tb_d tk_X2_become_1 24 (43, .aload_n 0, 1) rfl
theorem dX2_become_44 : decode cX2_become 44 = .ok (.getfield 24, 3) := tb_d tk_X2_become_1 25 (44, .getfield 24, 3) rfl
theorem dX2_become_47 : decode cX2_become 47 = .ok (.aload_n 1, 1) := tb_d tk_X2_become_1 26 (47, .aload_n 1, 1) rfl
theorem dX2_become_48 : decode cX2_become 48 = .ok (.getfield 24, 3) := tb_d tk_X2_become_1 27 (48, .getfield 24, 3) rfl
theorem dX2_become_51 : decode cX2_become 51 = .ok (.invokevirtual 34, 3) := tb_d tk_X2_become_1 28 (51, .invokevirtual 34, 3) rfl
theorem dX2_become_54 : decode cX2_become 54 = .ok (.aload_n 0, 1) := tb_d tk_X2_become_1 29 (54, .aload_n 0, 1) rfl
theorem dX2_become_55 : decode cX2_become 55 = .ok (.aload_n 1, 1) := tb_d tk_X2_become_1 30 (55, .aload_n 1, 1) rfl
theorem dX2_become_56 : decode cX2_become 56 = .ok (.getfield 38, 3) := tb_d tk_X2_become_1 31 (56, .getfield 38, 3) rfl
theorem dX2_become_59 : decode cX2_become 59 = .ok (.putfield 38, 3) := tb_d tk_X2_become_1 32 (59, .putfield 38, 3) rfl
theorem dX2_become_62 : decode cX2_become 62 = .ok (.aload_n 0, 1) := tb_d tk_X2_become_1 33 (62, .aload_n 0, 1) rfl
theorem dX2_become_63 : decode cX2_become 63 = .ok (.aload_n 1, 1) := tb_d tk_X2_become_1 34 (63, .aload_n 1, 1) rfl
theorem dX2_become_64 : decode cX2_become 64 = .ok (.getfield 42, 3) := tb_d tk_X2_become_1 35 (64, .getfield 42, 3) rfl
theorem dX2_become_67 : decode cX2_become 67 = .ok (.putfield 42, 3) := tb_d tk_X2_become_1 36 (67, .putfield 42, 3) rfl
theorem dX2_become_70 : decode cX2_become 70 = .ok (.aload_n 0, 1) := tb_d tk_X2_become_1 37 (70, .aload_n 0, 1) rfl
theorem dX2_become_71 : decode cX2_become 71 = .ok (.aload_n 1, 1) := tb_d tk_X2_become_1 38 (71, .aload_n 1, 1) rfl
theorem dX2_become_72 : decode cX2_become 72 = .ok (.getfield 45, 3) := tb_d tk_X2_become_1 39 (72, .getfield 45, 3) rfl
def tb_X2_become_2 : List (Nat × Instr × Nat) := [(75, .putfield 45, 3), (78, .aload_n 0, 1), (79, .aload_n 1, 1), (80, .getfield 48, 3), (83, .putfield 48, 3), (86, .return_, 1)]
set_option maxRecDepth 100000 in
theorem tk_X2_become_2 : (tb_X2_become_2.all fun q => decide (decode cX2_become q.1 = .ok q.2)) = true := by decide +kernel
theorem dX2_become_75 : decode cX2_become 75 = .ok (.putfield 45, 3) := tb_d tk_X2_become_2 0 (75, .putfield 45, 3) rfl
theorem dX2_become_78 : decode cX2_become 78 = .ok (.aload_n 0, 1) := tb_d tk_X2_become_2 1 (78, .aload_n 0, 1) rfl
theorem dX2_become_79 : decode cX2_become 79 = .ok (.aload_n 1, 1) := tb_d tk_X2_become_2 2 (79, .aload_n 1, 1) rfl
theorem dX2_become_80 : decode cX2_become 80 = .ok (.getfield 48, 3) := tb_d tk_X2_become_2 3 (80, .getfield 48, 3) rfl
theorem dX2_become_83 : decode cX2_become 83 = .ok (.putfield 48, 3) := tb_d tk_X2_become_2 4 (83, .putfield 48, 3) rfl
theorem dX2_become_86 : decode cX2_become 86 = .ok (.return_, 1) := tb_d tk_X2_become_2 5 (86, .return_, 1) rfl
theorem ggX2_secretBy_X7_rest : GoodIn wsX2_secretBy wsX7_rest := fun w h => ⟨List.mem_cons_of_mem _ (List.mem_append_right _ (List.mem_append_right _ (List.mem_append_left _ h))), good_of_word (gdX7_rest w h)⟩
set_option maxRecDepth 20000 in
theorem gX2_secretBy_X7_rest_n51 : GoodIn wsX2_secretBy (wsX7_rest) := ggX2_secretBy_X7_rest
def tb_X2_secretBy_1 : List (Nat × Instr × Nat) := [(0, .iload 4, 2), (2, .bipush 7, 2), (4, .irem, 1), (5, .iload_n 3, 1), (6, .if_icmp .ne 7, 3), (9, .iconst 0, 1), (10, .goto 16, 3), (13, .iload_n 1, 1), (14, .iload_n 2, 1), (15, .iload 4, 2), (17, .imul, 1), (18, .iadd, 1), (19, .aload_n 0, 1), (20, .getfield 45, 3), (23, .invokestatic 51, 3), (26, .ireturn, 1)]
set_option maxRecDepth 100000 in
theorem tk_X2_secretBy_1 : (tb_X2_secretBy_1.all fun q => decide (decode cX2_secretBy q.1 = .ok q.2)) = true := by decide +kernel
theorem dX2_secretBy_0 : decode cX2_secretBy 0 = .ok (.iload 4, 2) := tb_d tk_X2_secretBy_1 0 (0, .iload 4, 2) rfl
theorem dX2_secretBy_2 : decode cX2_secretBy 2 = .ok (.bipush 7, 2) := tb_d tk_X2_secretBy_1 1 (2, .bipush 7, 2) rfl
theorem dX2_secretBy_4 : decode cX2_secretBy 4 = .ok (.irem, 1) := tb_d tk_X2_secretBy_1 2 (4, .irem, 1) rfl
theorem dX2_secretBy_5 : decode cX2_secretBy 5 = .ok (.iload_n 3, 1) := tb_d tk_X2_secretBy_1 3 (5, .iload_n 3, 1) rfl
theorem dX2_secretBy_6 : decode cX2_secretBy 6 = .ok (.if_icmp .ne 7, 3) := tb_d tk_X2_secretBy_1 4 (6, .if_icmp .ne 7, 3) rfl
theorem dX2_secretBy_9 : decode cX2_secretBy 9 = .ok (.iconst 0, 1) := tb_d tk_X2_secretBy_1 5 (9, .iconst 0, 1) rfl
theorem dX2_secretBy_10 : decode cX2_secretBy 10 = .ok (.goto 16, 3) := tb_d tk_X2_secretBy_1 6 (10, .goto 16, 3) rfl
theorem dX2_secretBy_13 : decode cX2_secretBy 13 = .ok (.iload_n 1, 1) := tb_d tk_X2_secretBy_1 7 (13, .iload_n 1, 1) rfl
theorem dX2_secretBy_14 : decode cX2_secretBy 14 = .ok (.iload_n 2, 1) := tb_d tk_X2_secretBy_1 8 (14, .iload_n 2, 1) rfl
theorem dX2_secretBy_15 : decode cX2_secretBy 15 = .ok (.iload 4, 2) := tb_d tk_X2_secretBy_1 9 (15, .iload 4, 2) rfl
theorem dX2_secretBy_17 : decode cX2_secretBy 17 = .ok (.imul, 1) := tb_d tk_X2_secretBy_1 10 (17, .imul, 1) rfl
theorem dX2_secretBy_18 : decode cX2_secretBy 18 = .ok (.iadd, 1) := tb_d tk_X2_secretBy_1 11 (18, .iadd, 1) rfl
theorem dX2_secretBy_19 : decode cX2_secretBy 19 = .ok (.aload_n 0, 1) := tb_d tk_X2_secretBy_1 12 (19, .aload_n 0, 1) rfl
theorem dX2_secretBy_20 : decode cX2_secretBy 20 = .ok (.getfield 45, 3) := tb_d tk_X2_secretBy_1 13 (20, .getfield 45, 3) rfl
theorem dX2_secretBy_23 : decode cX2_secretBy 23 = .ok (.invokestatic 51, 3) := tb_d tk_X2_secretBy_1 14 (23, .invokestatic 51, 3) rfl
theorem dX2_secretBy_26 : decode cX2_secretBy 26 = .ok (.ireturn, 1) := tb_d tk_X2_secretBy_1 15 (26, .ireturn, 1) rfl
theorem ggX2_secretIn_X2_secretBy : GoodIn wsX2_secretIn wsX2_secretBy := fun w h => ⟨List.mem_cons_of_mem _ (List.mem_append_right _ (List.mem_append_right _ (List.mem_append_right _ (List.mem_append_right _ (List.mem_append_left _ h))))), good_of_word (gdX2_secretBy w h)⟩
set_option maxRecDepth 20000 in
theorem gX2_secretIn_X2_secretBy : GoodIn wsX2_secretIn (wsV RX2 61 RX2 yX2_secretBy wsX2_secretBy) := goodIn_app (a := bkV RX2 61 RX2 yX2_secretBy) (fun w h => ⟨List.mem_cons_of_mem _ (List.mem_append_right _ (List.mem_append_left _ h)), good_of_word (gd_bV _ _ _ _ w h)⟩) ggX2_secretIn_X2_secretBy
def tb_X2_secretIn_1 : List (Nat × Instr × Nat) := [(0, .aload_n 0, 1), (1, .aload_n 0, 1), (2, .getfield 24, 3), (5, .getfield 55, 3), (8, .aload_n 0, 1), (9, .getfield 38, 3), (12, .aload_n 0, 1), (13, .getfield 42, 3), (16, .aload_n 0, 1), (17, .getfield 24, 3), (20, .getfield 58, 3), (23, .iload_n 1, 1), (24, .iadd, 1), (25, .invokevirtual 61, 3), (28, .ireturn, 1)]
set_option maxRecDepth 100000 in
theorem tk_X2_secretIn_1 : (tb_X2_secretIn_1.all fun q => decide (decode cX2_secretIn q.1 = .ok q.2)) = true := by decide +kernel
theorem dX2_secretIn_0 : decode cX2_secretIn 0 = .ok (.aload_n 0, 1) := tb_d tk_X2_secretIn_1 0 (0, .aload_n 0, 1) rfl
theorem dX2_secretIn_1 : decode cX2_secretIn 1 = .ok (.aload_n 0, 1) := tb_d tk_X2_secretIn_1 1 (1, .aload_n 0, 1) rfl
theorem dX2_secretIn_2 : decode cX2_secretIn 2 = .ok (.getfield 24, 3) := tb_d tk_X2_secretIn_1 2 (2, .getfield 24, 3) rfl
theorem dX2_secretIn_5 : decode cX2_secretIn 5 = .ok (.getfield 55, 3) := tb_d tk_X2_secretIn_1 3 (5, .getfield 55, 3) rfl
theorem dX2_secretIn_8 : decode cX2_secretIn 8 = .ok (.aload_n 0, 1) := tb_d tk_X2_secretIn_1 4 (8, .aload_n 0, 1) rfl
theorem dX2_secretIn_9 : decode cX2_secretIn 9 = .ok (.getfield 38, 3) := tb_d tk_X2_secretIn_1 5 (9, .getfield 38, 3) rfl
theorem dX2_secretIn_12 : decode cX2_secretIn 12 = .ok (.aload_n 0, 1) := tb_d tk_X2_secretIn_1 6 (12, .aload_n 0, 1) rfl
theorem dX2_secretIn_13 : decode cX2_secretIn 13 = .ok (.getfield 42, 3) := tb_d tk_X2_secretIn_1 7 (13, .getfield 42, 3) rfl
theorem dX2_secretIn_16 : decode cX2_secretIn 16 = .ok (.aload_n 0, 1) := tb_d tk_X2_secretIn_1 8 (16, .aload_n 0, 1) rfl
theorem dX2_secretIn_17 : decode cX2_secretIn 17 = .ok (.getfield 24, 3) := tb_d tk_X2_secretIn_1 9 (17, .getfield 24, 3) rfl
theorem dX2_secretIn_20 : decode cX2_secretIn 20 = .ok (.getfield 58, 3) := tb_d tk_X2_secretIn_1 10 (20, .getfield 58, 3) rfl
theorem dX2_secretIn_23 : decode cX2_secretIn 23 = .ok (.iload_n 1, 1) := tb_d tk_X2_secretIn_1 11 (23, .iload_n 1, 1) rfl
theorem dX2_secretIn_24 : decode cX2_secretIn 24 = .ok (.iadd, 1) := tb_d tk_X2_secretIn_1 12 (24, .iadd, 1) rfl
theorem dX2_secretIn_25 : decode cX2_secretIn 25 = .ok (.invokevirtual 61, 3) := tb_d tk_X2_secretIn_1 13 (25, .invokevirtual 61, 3) rfl
theorem dX2_secretIn_28 : decode cX2_secretIn 28 = .ok (.ireturn, 1) := tb_d tk_X2_secretIn_1 14 (28, .ireturn, 1) rfl
def tb_X2_distance_1 : List (Nat × Instr × Nat) := [(0, .iconst 0, 1), (1, .istore_n 3, 1), (2, .iconst 0, 1), (3, .istore 4, 2), (5, .iload 4, 2), (7, .iconst 3, 1), (8, .if_icmp .ge 37, 3), (11, .aload_n 0, 1), (12, .getfield 9, 3), (15, .iload_n 1, 1), (16, .iconst 3, 1), (17, .imul, 1), (18, .iload 4, 2), (20, .iadd, 1), (21, .iaload, 1), (22, .aload_n 0, 1), (23, .getfield 9, 3), (26, .iload_n 2, 1), (27, .iconst 3, 1), (28, .imul, 1), (29, .iload 4, 2), (31, .iadd, 1), (32, .iaload, 1), (33, .if_icmp .eq 6, 3), (36, .iinc 3 1, 3), (39, .iinc 4 1, 3), (42, .goto (-37), 3), (45, .iload_n 3, 1), (46, .ireturn, 1)]
set_option maxRecDepth 100000 in
theorem tk_X2_distance_1 : (tb_X2_distance_1.all fun q => decide (decode cX2_distance q.1 = .ok q.2)) = true := by decide +kernel
theorem dX2_distance_0 : decode cX2_distance 0 = .ok (.iconst 0, 1) := tb_d tk_X2_distance_1 0 (0, .iconst 0, 1) rfl
theorem dX2_distance_1 : decode cX2_distance 1 = .ok (.istore_n 3, 1) := tb_d tk_X2_distance_1 1 (1, .istore_n 3, 1) rfl
theorem dX2_distance_2 : decode cX2_distance 2 = .ok (.iconst 0, 1) := tb_d tk_X2_distance_1 2 (2, .iconst 0, 1) rfl
theorem dX2_distance_3 : decode cX2_distance 3 = .ok (.istore 4, 2) := tb_d tk_X2_distance_1 3 (3, .istore 4, 2) rfl
theorem dX2_distance_5 : decode cX2_distance 5 = .ok (.iload 4, 2) := tb_d tk_X2_distance_1 4 (5, .iload 4, 2) rfl
theorem dX2_distance_7 : decode cX2_distance 7 = .ok (.iconst 3, 1) := tb_d tk_X2_distance_1 5 (7, .iconst 3, 1) rfl
theorem dX2_distance_8 : decode cX2_distance 8 = .ok (.if_icmp .ge 37, 3) := tb_d tk_X2_distance_1 6 (8, .if_icmp .ge 37, 3) rfl
theorem dX2_distance_11 : decode cX2_distance 11 = .ok (.aload_n 0, 1) := tb_d tk_X2_distance_1 7 (11, .aload_n 0, 1) rfl
theorem dX2_distance_12 : decode cX2_distance 12 = .ok (.getfield 9, 3) := tb_d tk_X2_distance_1 8 (12, .getfield 9, 3) rfl
theorem dX2_distance_15 : decode cX2_distance 15 = .ok (.iload_n 1, 1) := tb_d tk_X2_distance_1 9 (15, .iload_n 1, 1) rfl
theorem dX2_distance_16 : decode cX2_distance 16 = .ok (.iconst 3, 1) := tb_d tk_X2_distance_1 10 (16, .iconst 3, 1) rfl
theorem dX2_distance_17 : decode cX2_distance 17 = .ok (.imul, 1) := tb_d tk_X2_distance_1 11 (17, .imul, 1) rfl
theorem dX2_distance_18 : decode cX2_distance 18 = .ok (.iload 4, 2) := tb_d tk_X2_distance_1 12 (18, .iload 4, 2) rfl
theorem dX2_distance_20 : decode cX2_distance 20 = .ok (.iadd, 1) := tb_d tk_X2_distance_1 13 (20, .iadd, 1) rfl
theorem dX2_distance_21 : decode cX2_distance 21 = .ok (.iaload, 1) := tb_d tk_X2_distance_1 14 (21, .iaload, 1) rfl
theorem dX2_distance_22 : decode cX2_distance 22 = .ok (.aload_n 0, 1) := tb_d tk_X2_distance_1 15 (22, .aload_n 0, 1) rfl
theorem dX2_distance_23 : decode cX2_distance 23 = .ok (.getfield 9, 3) := tb_d tk_X2_distance_1 16 (23, .getfield 9, 3) rfl
theorem dX2_distance_26 : decode cX2_distance 26 = .ok (.iload_n 2, 1) := tb_d tk_X2_distance_1 17 (26, .iload_n 2, 1) rfl
theorem dX2_distance_27 : decode cX2_distance 27 = .ok (.iconst 3, 1) := tb_d tk_X2_distance_1 18 (27, .iconst 3, 1) rfl
theorem dX2_distance_28 : decode cX2_distance 28 = .ok (.imul, 1) := tb_d tk_X2_distance_1 19 (28, .imul, 1) rfl
theorem dX2_distance_29 : decode cX2_distance 29 = .ok (.iload 4, 2) := tb_d tk_X2_distance_1 20 (29, .iload 4, 2) rfl
theorem dX2_distance_31 : decode cX2_distance 31 = .ok (.iadd, 1) := tb_d tk_X2_distance_1 21 (31, .iadd, 1) rfl
theorem dX2_distance_32 : decode cX2_distance 32 = .ok (.iaload, 1) := tb_d tk_X2_distance_1 22 (32, .iaload, 1) rfl
theorem dX2_distance_33 : decode cX2_distance 33 = .ok (.if_icmp .eq 6, 3) := tb_d tk_X2_distance_1 23 (33, .if_icmp .eq 6, 3) rfl
theorem dX2_distance_36 : decode cX2_distance 36 = .ok (.iinc 3 1, 3) := tb_d tk_X2_distance_1 24 (36, .iinc 3 1, 3) rfl
theorem dX2_distance_39 : decode cX2_distance 39 = .ok (.iinc 4 1, 3) := tb_d tk_X2_distance_1 25 (39, .iinc 4 1, 3) rfl
theorem dX2_distance_42 : decode cX2_distance 42 = .ok (.goto (-37), 3) := tb_d tk_X2_distance_1 26 (42, .goto (-37), 3) rfl
theorem dX2_distance_45 : decode cX2_distance 45 = .ok (.iload_n 3, 1) := tb_d tk_X2_distance_1 27 (45, .iload_n 3, 1) rfl
theorem dX2_distance_46 : decode cX2_distance 46 = .ok (.ireturn, 1) := tb_d tk_X2_distance_1 28 (46, .ireturn, 1) rfl
def tb_X2_lips_1 : List (Nat × Instr × Nat) := [(0, .iconst 0, 1), (1, .istore_n 3, 1), (2, .iconst 0, 1), (3, .istore 4, 2), (5, .iload 4, 2), (7, .iconst 3, 1), (8, .if_icmp .ge 41, 3), (11, .aload_n 0, 1), (12, .getfield 9, 3), (15, .iload_n 1, 1), (16, .iconst 3, 1), (17, .imul, 1), (18, .iload 4, 2), (20, .iadd, 1), (21, .iaload, 1), (22, .iconst 5, 1), (23, .irem, 1), (24, .aload_n 0, 1), (25, .getfield 9, 3), (28, .iload_n 2, 1), (29, .iconst 3, 1), (30, .imul, 1), (31, .iload 4, 2), (33, .iadd, 1), (34, .iaload, 1), (35, .iconst 5, 1), (36, .irem, 1), (37, .if_icmp .ne 6, 3), (40, .iinc 3 1, 3), (43, .iinc 4 1, 3), (46, .goto (-41), 3), (49, .iload_n 3, 1), (50, .ireturn, 1)]
set_option maxRecDepth 100000 in
theorem tk_X2_lips_1 : (tb_X2_lips_1.all fun q => decide (decode cX2_lips q.1 = .ok q.2)) = true := by decide +kernel
theorem dX2_lips_0 : decode cX2_lips 0 = .ok (.iconst 0, 1) := tb_d tk_X2_lips_1 0 (0, .iconst 0, 1) rfl
theorem dX2_lips_1 : decode cX2_lips 1 = .ok (.istore_n 3, 1) := tb_d tk_X2_lips_1 1 (1, .istore_n 3, 1) rfl
theorem dX2_lips_2 : decode cX2_lips 2 = .ok (.iconst 0, 1) := tb_d tk_X2_lips_1 2 (2, .iconst 0, 1) rfl
theorem dX2_lips_3 : decode cX2_lips 3 = .ok (.istore 4, 2) := tb_d tk_X2_lips_1 3 (3, .istore 4, 2) rfl
theorem dX2_lips_5 : decode cX2_lips 5 = .ok (.iload 4, 2) := tb_d tk_X2_lips_1 4 (5, .iload 4, 2) rfl
theorem dX2_lips_7 : decode cX2_lips 7 = .ok (.iconst 3, 1) := tb_d tk_X2_lips_1 5 (7, .iconst 3, 1) rfl
theorem dX2_lips_8 : decode cX2_lips 8 = .ok (.if_icmp .ge 41, 3) := tb_d tk_X2_lips_1 6 (8, .if_icmp .ge 41, 3) rfl
theorem dX2_lips_11 : decode cX2_lips 11 = .ok (.aload_n 0, 1) := tb_d tk_X2_lips_1 7 (11, .aload_n 0, 1) rfl
theorem dX2_lips_12 : decode cX2_lips 12 = .ok (.getfield 9, 3) := tb_d tk_X2_lips_1 8 (12, .getfield 9, 3) rfl
theorem dX2_lips_15 : decode cX2_lips 15 = .ok (.iload_n 1, 1) := tb_d tk_X2_lips_1 9 (15, .iload_n 1, 1) rfl
theorem dX2_lips_16 : decode cX2_lips 16 = .ok (.iconst 3, 1) := tb_d tk_X2_lips_1 10 (16, .iconst 3, 1) rfl
theorem dX2_lips_17 : decode cX2_lips 17 = .ok (.imul, 1) := tb_d tk_X2_lips_1 11 (17, .imul, 1) rfl
theorem dX2_lips_18 : decode cX2_lips 18 = .ok (.iload 4, 2) := tb_d tk_X2_lips_1 12 (18, .iload 4, 2) rfl
theorem dX2_lips_20 : decode cX2_lips 20 = .ok (.iadd, 1) := tb_d tk_X2_lips_1 13 (20, .iadd, 1) rfl
theorem dX2_lips_21 : decode cX2_lips 21 = .ok (.iaload, 1) := tb_d tk_X2_lips_1 14 (21, .iaload, 1) rfl
theorem dX2_lips_22 : decode cX2_lips 22 = .ok (.iconst 5, 1) := tb_d tk_X2_lips_1 15 (22, .iconst 5, 1) rfl
theorem dX2_lips_23 : decode cX2_lips 23 = .ok (.irem, 1) := tb_d tk_X2_lips_1 16 (23, .irem, 1) rfl
theorem dX2_lips_24 : decode cX2_lips 24 = .ok (.aload_n 0, 1) := tb_d tk_X2_lips_1 17 (24, .aload_n 0, 1) rfl
theorem dX2_lips_25 : decode cX2_lips 25 = .ok (.getfield 9, 3) := tb_d tk_X2_lips_1 18 (25, .getfield 9, 3) rfl
theorem dX2_lips_28 : decode cX2_lips 28 = .ok (.iload_n 2, 1) := tb_d tk_X2_lips_1 19 (28, .iload_n 2, 1) rfl
theorem dX2_lips_29 : decode cX2_lips 29 = .ok (.iconst 3, 1) := tb_d tk_X2_lips_1 20 (29, .iconst 3, 1) rfl
theorem dX2_lips_30 : decode cX2_lips 30 = .ok (.imul, 1) := tb_d tk_X2_lips_1 21 (30, .imul, 1) rfl
theorem dX2_lips_31 : decode cX2_lips 31 = .ok (.iload 4, 2) := tb_d tk_X2_lips_1 22 (31, .iload 4, 2) rfl
theorem dX2_lips_33 : decode cX2_lips 33 = .ok (.iadd, 1) := tb_d tk_X2_lips_1 23 (33, .iadd, 1) rfl
theorem dX2_lips_34 : decode cX2_lips 34 = .ok (.iaload, 1) := tb_d tk_X2_lips_1 24 (34, .iaload, 1) rfl
theorem dX2_lips_35 : decode cX2_lips 35 = .ok (.iconst 5, 1) := tb_d tk_X2_lips_1 25 (35, .iconst 5, 1) rfl
theorem dX2_lips_36 : decode cX2_lips 36 = .ok (.irem, 1) := tb_d tk_X2_lips_1 26 (36, .irem, 1) rfl
theorem dX2_lips_37 : decode cX2_lips 37 = .ok (.if_icmp .ne 6, 3) := tb_d tk_X2_lips_1 27 (37, .if_icmp .ne 6, 3) rfl
theorem dX2_lips_40 : decode cX2_lips 40 = .ok (.iinc 3 1, 3) := tb_d tk_X2_lips_1 28 (40, .iinc 3 1, 3) rfl
theorem dX2_lips_43 : decode cX2_lips 43 = .ok (.iinc 4 1, 3) := tb_d tk_X2_lips_1 29 (43, .iinc 4 1, 3) rfl
theorem dX2_lips_46 : decode cX2_lips 46 = .ok (.goto (-41), 3) := tb_d tk_X2_lips_1 30 (46, .goto (-41), 3) rfl
theorem dX2_lips_49 : decode cX2_lips 49 = .ok (.iload_n 3, 1) := tb_d tk_X2_lips_1 31 (49, .iload_n 3, 1) rfl
theorem dX2_lips_50 : decode cX2_lips 50 = .ok (.ireturn, 1) := tb_d tk_X2_lips_1 32 (50, .ireturn, 1) rfl
theorem ggX2_guardOn_X7_rest : GoodIn wsX2_guardOn wsX7_rest := fun w h => ⟨List.mem_cons_of_mem _ (List.mem_append_right _ (List.mem_append_right _ (List.mem_append_left _ h))), good_of_word (gdX7_rest w h)⟩
set_option maxRecDepth 20000 in
theorem gX2_guardOn_X7_rest_n51 : GoodIn wsX2_guardOn (wsX7_rest) := ggX2_guardOn_X7_rest
def tb_X2_guardOn_1 : List (Nat × Instr × Nat) := [(0, .iload_n 1, 1), (1, .iload_n 2, 1), (2, .iadd, 1), (3, .aload_n 0, 1), (4, .getfield 48, 3), (7, .invokestatic 51, 3), (10, .ireturn, 1)]
set_option maxRecDepth 100000 in
theorem tk_X2_guardOn_1 : (tb_X2_guardOn_1.all fun q => decide (decode cX2_guardOn q.1 = .ok q.2)) = true := by decide +kernel
theorem dX2_guardOn_0 : decode cX2_guardOn 0 = .ok (.iload_n 1, 1) := tb_d tk_X2_guardOn_1 0 (0, .iload_n 1, 1) rfl
theorem dX2_guardOn_1 : decode cX2_guardOn 1 = .ok (.iload_n 2, 1) := tb_d tk_X2_guardOn_1 1 (1, .iload_n 2, 1) rfl
theorem dX2_guardOn_2 : decode cX2_guardOn 2 = .ok (.iadd, 1) := tb_d tk_X2_guardOn_1 2 (2, .iadd, 1) rfl
theorem dX2_guardOn_3 : decode cX2_guardOn 3 = .ok (.aload_n 0, 1) := tb_d tk_X2_guardOn_1 3 (3, .aload_n 0, 1) rfl
theorem dX2_guardOn_4 : decode cX2_guardOn 4 = .ok (.getfield 48, 3) := tb_d tk_X2_guardOn_1 4 (4, .getfield 48, 3) rfl
theorem dX2_guardOn_7 : decode cX2_guardOn 7 = .ok (.invokestatic 51, 3) := tb_d tk_X2_guardOn_1 5 (7, .invokestatic 51, 3) rfl
theorem dX2_guardOn_10 : decode cX2_guardOn 10 = .ok (.ireturn, 1) := tb_d tk_X2_guardOn_1 6 (10, .ireturn, 1) rfl
def tb_X2_isThere_1 : List (Nat × Instr × Nat) := [(0, .aload_n 0, 1), (1, .getfield 24, 3), (4, .getfield 65, 3), (7, .iload_n 1, 1), (8, .ishr, 1), (9, .iconst 1, 1), (10, .iand, 1), (11, .iconst 1, 1), (12, .if_icmp .ne 7, 3), (15, .iconst 1, 1), (16, .goto 4, 3), (19, .iconst 0, 1), (20, .ireturn, 1)]
set_option maxRecDepth 100000 in
theorem tk_X2_isThere_1 : (tb_X2_isThere_1.all fun q => decide (decode cX2_isThere q.1 = .ok q.2)) = true := by decide +kernel
theorem dX2_isThere_0 : decode cX2_isThere 0 = .ok (.aload_n 0, 1) := tb_d tk_X2_isThere_1 0 (0, .aload_n 0, 1) rfl
theorem dX2_isThere_1 : decode cX2_isThere 1 = .ok (.getfield 24, 3) := tb_d tk_X2_isThere_1 1 (1, .getfield 24, 3) rfl
theorem dX2_isThere_4 : decode cX2_isThere 4 = .ok (.getfield 65, 3) := tb_d tk_X2_isThere_1 2 (4, .getfield 65, 3) rfl
theorem dX2_isThere_7 : decode cX2_isThere 7 = .ok (.iload_n 1, 1) := tb_d tk_X2_isThere_1 3 (7, .iload_n 1, 1) rfl
theorem dX2_isThere_8 : decode cX2_isThere 8 = .ok (.ishr, 1) := tb_d tk_X2_isThere_1 4 (8, .ishr, 1) rfl
theorem dX2_isThere_9 : decode cX2_isThere 9 = .ok (.iconst 1, 1) := tb_d tk_X2_isThere_1 5 (9, .iconst 1, 1) rfl
theorem dX2_isThere_10 : decode cX2_isThere 10 = .ok (.iand, 1) := tb_d tk_X2_isThere_1 6 (10, .iand, 1) rfl
theorem dX2_isThere_11 : decode cX2_isThere 11 = .ok (.iconst 1, 1) := tb_d tk_X2_isThere_1 7 (11, .iconst 1, 1) rfl
theorem dX2_isThere_12 : decode cX2_isThere 12 = .ok (.if_icmp .ne 7, 3) := tb_d tk_X2_isThere_1 8 (12, .if_icmp .ne 7, 3) rfl
theorem dX2_isThere_15 : decode cX2_isThere 15 = .ok (.iconst 1, 1) := tb_d tk_X2_isThere_1 9 (15, .iconst 1, 1) rfl
theorem dX2_isThere_16 : decode cX2_isThere 16 = .ok (.goto 4, 3) := tb_d tk_X2_isThere_1 10 (16, .goto 4, 3) rfl
theorem dX2_isThere_19 : decode cX2_isThere 19 = .ok (.iconst 0, 1) := tb_d tk_X2_isThere_1 11 (19, .iconst 0, 1) rfl
theorem dX2_isThere_20 : decode cX2_isThere 20 = .ok (.ireturn, 1) := tb_d tk_X2_isThere_1 12 (20, .ireturn, 1) rfl
theorem ggX2_wouldTake_X2_distance : GoodIn wsX2_wouldTake wsX2_distance := fun w h => ⟨List.mem_cons_of_mem _ (List.mem_append_right _ (List.mem_append_right _ (List.mem_append_right _ (List.mem_append_right _ (List.mem_append_left _ h))))), good_of_word (gdX2_distance w h)⟩
set_option maxRecDepth 20000 in
theorem gX2_wouldTake_X2_distance : GoodIn wsX2_wouldTake (wsV RX2 68 RX2 yX2_distance wsX2_distance) := goodIn_app (a := bkV RX2 68 RX2 yX2_distance) (fun w h => ⟨List.mem_cons_of_mem _ (List.mem_append_right _ (List.mem_append_left _ h)), good_of_word (gd_bV _ _ _ _ w h)⟩) ggX2_wouldTake_X2_distance
theorem ggX2_wouldTake_X2_lips : GoodIn wsX2_wouldTake wsX2_lips := fun w h => ⟨List.mem_cons_of_mem _ (List.mem_append_right _ (List.mem_append_right _ (List.mem_append_right _ (List.mem_append_right _ (List.mem_append_right _ (List.mem_append_left _ h)))))), good_of_word (gdX2_lips w h)⟩
set_option maxRecDepth 20000 in
theorem gX2_wouldTake_X2_lips : GoodIn wsX2_wouldTake (wsV RX2 71 RX2 yX2_lips wsX2_lips) := goodIn_app (a := bkV RX2 71 RX2 yX2_lips) (fun w h => ⟨List.mem_cons_of_mem _ (List.mem_append_right _ (List.mem_append_right _ (List.mem_append_left _ h))), good_of_word (gd_bV _ _ _ _ w h)⟩) ggX2_wouldTake_X2_lips
def tb_X2_wouldTake_1 : List (Nat × Instr × Nat) := [(0, .iload_n 1, 1), (1, .tableswitch 120 1 5 #[35, 50, 66, 88, 104], 35), (36, .aload_n 0, 1), (37, .iload_n 2, 1), (38, .iload_n 3, 1), (39, .invokevirtual 68, 3), (42, .ifCond .ne 7, 3), (45, .iconst 1, 1), (46, .goto 4, 3), (49, .iconst 0, 1), (50, .ireturn, 1), (51, .aload_n 0, 1), (52, .iload_n 2, 1), (53, .iload_n 3, 1), (54, .invokevirtual 68, 3), (57, .iconst 1, 1), (58, .if_icmp .gt 7, 3), (61, .iconst 1, 1), (62, .goto 4, 3), (65, .iconst 0, 1), (66, .ireturn, 1), (67, .iload 4, 2), (69, .iconst 2, 1), (70, .irem, 1), (71, .ifCond .ne 16, 3), (74, .aload_n 0, 1), (75, .iload_n 2, 1), (76, .iload_n 3, 1), (77, .invokevirtual 68, 3), (80, .ifCond .ne 7, 3), (83, .iconst 1, 1), (84, .goto 4, 3), (87, .iconst 0, 1), (88, .ireturn, 1), (89, .aload_n 0, 1), (90, .iload_n 2, 1), (91, .iload_n 3, 1), (92, .invokevirtual 71, 3), (95, .iconst 3, 1), (96, .if_icmp .ne 7, 3)]
set_option maxRecDepth 100000 in
theorem tk_X2_wouldTake_1 : (tb_X2_wouldTake_1.all fun q => decide (decode cX2_wouldTake q.1 = .ok q.2)) = true := by decide +kernel
theorem dX2_wouldTake_0 : decode cX2_wouldTake 0 = .ok (.iload_n 1, 1) := tb_d tk_X2_wouldTake_1 0 (0, .iload_n 1, 1) rfl
theorem dX2_wouldTake_1 : decode cX2_wouldTake 1 = .ok (.tableswitch 120 1 5 #[35, 50, 66, 88, 104], 35) := tb_d tk_X2_wouldTake_1 1 (1, .tableswitch 120 1 5 #[35, 50, 66, 88, 104], 35) rfl
theorem dX2_wouldTake_36 : decode cX2_wouldTake 36 = .ok (.aload_n 0, 1) := tb_d tk_X2_wouldTake_1 2 (36, .aload_n 0, 1) rfl
theorem dX2_wouldTake_37 : decode cX2_wouldTake 37 = .ok (.iload_n 2, 1) := tb_d tk_X2_wouldTake_1 3 (37, .iload_n 2, 1) rfl
theorem dX2_wouldTake_38 : decode cX2_wouldTake 38 = .ok (.iload_n 3, 1) := tb_d tk_X2_wouldTake_1 4 (38, .iload_n 3, 1) rfl
theorem dX2_wouldTake_39 : decode cX2_wouldTake 39 = .ok (.invokevirtual 68, 3) := tb_d tk_X2_wouldTake_1 5 (39, .invokevirtual 68, 3) rfl
theorem dX2_wouldTake_42 : decode cX2_wouldTake 42 = .ok (.ifCond .ne 7, 3) := tb_d tk_X2_wouldTake_1 6 (42, .ifCond .ne 7, 3) rfl
theorem dX2_wouldTake_45 : decode cX2_wouldTake 45 = .ok (.iconst 1, 1) := tb_d tk_X2_wouldTake_1 7 (45, .iconst 1, 1) rfl
theorem dX2_wouldTake_46 : decode cX2_wouldTake 46 = .ok (.goto 4, 3) := tb_d tk_X2_wouldTake_1 8 (46, .goto 4, 3) rfl
theorem dX2_wouldTake_49 : decode cX2_wouldTake 49 = .ok (.iconst 0, 1) := tb_d tk_X2_wouldTake_1 9 (49, .iconst 0, 1) rfl
theorem dX2_wouldTake_50 : decode cX2_wouldTake 50 = .ok (.ireturn, 1) := tb_d tk_X2_wouldTake_1 10 (50, .ireturn, 1) rfl
theorem dX2_wouldTake_51 : decode cX2_wouldTake 51 = .ok (.aload_n 0, 1) := tb_d tk_X2_wouldTake_1 11 (51, .aload_n 0, 1) rfl
theorem dX2_wouldTake_52 : decode cX2_wouldTake 52 = .ok (.iload_n 2, 1) := tb_d tk_X2_wouldTake_1 12 (52, .iload_n 2, 1) rfl
theorem dX2_wouldTake_53 : decode cX2_wouldTake 53 = .ok (.iload_n 3, 1) := tb_d tk_X2_wouldTake_1 13 (53, .iload_n 3, 1) rfl
theorem dX2_wouldTake_54 : decode cX2_wouldTake 54 = .ok (.invokevirtual 68, 3) := tb_d tk_X2_wouldTake_1 14 (54, .invokevirtual 68, 3) rfl
theorem dX2_wouldTake_57 : decode cX2_wouldTake 57 = .ok (.iconst 1, 1) := tb_d tk_X2_wouldTake_1 15 (57, .iconst 1, 1) rfl
theorem dX2_wouldTake_58 : decode cX2_wouldTake 58 = .ok (.if_icmp .gt 7, 3) := tb_d tk_X2_wouldTake_1 16 (58, .if_icmp .gt 7, 3) rfl
theorem dX2_wouldTake_61 : decode cX2_wouldTake 61 = .ok (.iconst 1, 1) := tb_d tk_X2_wouldTake_1 17 (61, .iconst 1, 1) rfl
theorem dX2_wouldTake_62 : decode cX2_wouldTake 62 = .ok (.goto 4, 3) := tb_d tk_X2_wouldTake_1 18 (62, .goto 4, 3) rfl
theorem dX2_wouldTake_65 : decode cX2_wouldTake 65 = .ok (.iconst 0, 1) := tb_d tk_X2_wouldTake_1 19 (65, .iconst 0, 1) rfl
theorem dX2_wouldTake_66 : decode cX2_wouldTake 66 = .ok (.ireturn, 1) := tb_d tk_X2_wouldTake_1 20 (66, .ireturn, 1) rfl
theorem dX2_wouldTake_67 : decode cX2_wouldTake 67 = .ok (.iload 4, 2) := tb_d tk_X2_wouldTake_1 21 (67, .iload 4, 2) rfl
theorem dX2_wouldTake_69 : decode cX2_wouldTake 69 = .ok (.iconst 2, 1) := tb_d tk_X2_wouldTake_1 22 (69, .iconst 2, 1) rfl
theorem dX2_wouldTake_70 : decode cX2_wouldTake 70 = .ok (.irem, 1) := tb_d tk_X2_wouldTake_1 23 (70, .irem, 1) rfl
theorem dX2_wouldTake_71 : decode cX2_wouldTake 71 = .ok (.ifCond .ne 16, 3) := tb_d tk_X2_wouldTake_1 24 (71, .ifCond .ne 16, 3) rfl
theorem dX2_wouldTake_74 : decode cX2_wouldTake 74 = .ok (.aload_n 0, 1) := tb_d tk_X2_wouldTake_1 25 (74, .aload_n 0, 1) rfl
theorem dX2_wouldTake_75 : decode cX2_wouldTake 75 = .ok (.iload_n 2, 1) := tb_d tk_X2_wouldTake_1 26 (75, .iload_n 2, 1) rfl
theorem dX2_wouldTake_76 : decode cX2_wouldTake 76 = .ok (.iload_n 3, 1) := tb_d tk_X2_wouldTake_1 27 (76, .iload_n 3, 1) rfl
theorem dX2_wouldTake_77 : decode cX2_wouldTake 77 = .ok (.invokevirtual 68, 3) := tb_d tk_X2_wouldTake_1 28 (77, .invokevirtual 68, 3) rfl
theorem dX2_wouldTake_80 : decode cX2_wouldTake 80 = .ok (.ifCond .ne 7, 3) := tb_d tk_X2_wouldTake_1 29 (80, .ifCond .ne 7, 3) rfl
theorem dX2_wouldTake_83 : decode cX2_wouldTake 83 = .ok (.iconst 1, 1) := tb_d tk_X2_wouldTake_1 30 (83, .iconst 1, 1) rfl
theorem dX2_wouldTake_84 : decode cX2_wouldTake 84 = .ok (.goto 4, 3) := tb_d tk_X2_wouldTake_1 31 (84, .goto 4, 3) rfl
theorem dX2_wouldTake_87 : decode cX2_wouldTake 87 = .ok (.iconst 0, 1) := tb_d tk_X2_wouldTake_1 32 (87, .iconst 0, 1) rfl
theorem dX2_wouldTake_88 : decode cX2_wouldTake 88 = .ok (.ireturn, 1) := tb_d tk_X2_wouldTake_1 33 (88, .ireturn, 1) rfl
theorem dX2_wouldTake_89 : decode cX2_wouldTake 89 = .ok (.aload_n 0, 1) := tb_d tk_X2_wouldTake_1 34 (89, .aload_n 0, 1) rfl
theorem dX2_wouldTake_90 : decode cX2_wouldTake 90 = .ok (.iload_n 2, 1) := tb_d tk_X2_wouldTake_1 35 (90, .iload_n 2, 1) rfl
theorem dX2_wouldTake_91 : decode cX2_wouldTake 91 = .ok (.iload_n 3, 1) := tb_d tk_X2_wouldTake_1 36 (91, .iload_n 3, 1) rfl
theorem dX2_wouldTake_92 : decode cX2_wouldTake 92 = .ok (.invokevirtual 71, 3) := tb_d tk_X2_wouldTake_1 37 (92, .invokevirtual 71, 3) rfl
theorem dX2_wouldTake_95 : decode cX2_wouldTake 95 = .ok (.iconst 3, 1) := tb_d tk_X2_wouldTake_1 38 (95, .iconst 3, 1) rfl
theorem dX2_wouldTake_96 : decode cX2_wouldTake 96 = .ok (.if_icmp .ne 7, 3) := tb_d tk_X2_wouldTake_1 39 (96, .if_icmp .ne 7, 3) rfl
def tb_X2_wouldTake_2 : List (Nat × Instr × Nat) := [(99, .iconst 1, 1), (100, .goto 4, 3), (103, .iconst 0, 1), (104, .ireturn, 1), (105, .aload_n 0, 1), (106, .iload_n 2, 1), (107, .iload_n 3, 1), (108, .invokevirtual 71, 3), (111, .iconst 2, 1), (112, .if_icmp .lt 7, 3), (115, .iconst 1, 1), (116, .goto 4, 3), (119, .iconst 0, 1), (120, .ireturn, 1), (121, .iconst 0, 1), (122, .ireturn, 1)]
set_option maxRecDepth 100000 in
theorem tk_X2_wouldTake_2 : (tb_X2_wouldTake_2.all fun q => decide (decode cX2_wouldTake q.1 = .ok q.2)) = true := by decide +kernel
theorem dX2_wouldTake_99 : decode cX2_wouldTake 99 = .ok (.iconst 1, 1) := tb_d tk_X2_wouldTake_2 0 (99, .iconst 1, 1) rfl
theorem dX2_wouldTake_100 : decode cX2_wouldTake 100 = .ok (.goto 4, 3) := tb_d tk_X2_wouldTake_2 1 (100, .goto 4, 3) rfl
theorem dX2_wouldTake_103 : decode cX2_wouldTake 103 = .ok (.iconst 0, 1) := tb_d tk_X2_wouldTake_2 2 (103, .iconst 0, 1) rfl
theorem dX2_wouldTake_104 : decode cX2_wouldTake 104 = .ok (.ireturn, 1) := tb_d tk_X2_wouldTake_2 3 (104, .ireturn, 1) rfl
theorem dX2_wouldTake_105 : decode cX2_wouldTake 105 = .ok (.aload_n 0, 1) := tb_d tk_X2_wouldTake_2 4 (105, .aload_n 0, 1) rfl
theorem dX2_wouldTake_106 : decode cX2_wouldTake 106 = .ok (.iload_n 2, 1) := tb_d tk_X2_wouldTake_2 5 (106, .iload_n 2, 1) rfl
theorem dX2_wouldTake_107 : decode cX2_wouldTake 107 = .ok (.iload_n 3, 1) := tb_d tk_X2_wouldTake_2 6 (107, .iload_n 3, 1) rfl
theorem dX2_wouldTake_108 : decode cX2_wouldTake 108 = .ok (.invokevirtual 71, 3) := tb_d tk_X2_wouldTake_2 7 (108, .invokevirtual 71, 3) rfl
theorem dX2_wouldTake_111 : decode cX2_wouldTake 111 = .ok (.iconst 2, 1) := tb_d tk_X2_wouldTake_2 8 (111, .iconst 2, 1) rfl
theorem dX2_wouldTake_112 : decode cX2_wouldTake 112 = .ok (.if_icmp .lt 7, 3) := tb_d tk_X2_wouldTake_2 9 (112, .if_icmp .lt 7, 3) rfl
theorem dX2_wouldTake_115 : decode cX2_wouldTake 115 = .ok (.iconst 1, 1) := tb_d tk_X2_wouldTake_2 10 (115, .iconst 1, 1) rfl
theorem dX2_wouldTake_116 : decode cX2_wouldTake 116 = .ok (.goto 4, 3) := tb_d tk_X2_wouldTake_2 11 (116, .goto 4, 3) rfl
theorem dX2_wouldTake_119 : decode cX2_wouldTake 119 = .ok (.iconst 0, 1) := tb_d tk_X2_wouldTake_2 12 (119, .iconst 0, 1) rfl
theorem dX2_wouldTake_120 : decode cX2_wouldTake 120 = .ok (.ireturn, 1) := tb_d tk_X2_wouldTake_2 13 (120, .ireturn, 1) rfl
theorem dX2_wouldTake_121 : decode cX2_wouldTake 121 = .ok (.iconst 0, 1) := tb_d tk_X2_wouldTake_2 14 (121, .iconst 0, 1) rfl
theorem dX2_wouldTake_122 : decode cX2_wouldTake 122 = .ok (.ireturn, 1) := tb_d tk_X2_wouldTake_2 15 (122, .ireturn, 1) rfl
theorem ggX2_catchesIf_X2_guardOn : GoodIn wsX2_catchesIf wsX2_guardOn := fun w h => ⟨List.mem_cons_of_mem _ (List.mem_append_right _ (List.mem_append_right _ (List.mem_append_right _ (List.mem_append_right _ (List.mem_append_right _ (List.mem_append_right _ (List.mem_append_left _ h))))))), good_of_word (gdX2_guardOn w h)⟩
set_option maxRecDepth 20000 in
theorem gX2_catchesIf_X2_guardOn : GoodIn wsX2_catchesIf (wsV RX2 74 RX2 yX2_guardOn wsX2_guardOn) := goodIn_app (a := bkV RX2 74 RX2 yX2_guardOn) (fun w h => ⟨List.mem_cons_of_mem _ (List.mem_append_right _ (List.mem_append_left _ h)), good_of_word (gd_bV _ _ _ _ w h)⟩) ggX2_catchesIf_X2_guardOn
theorem ggX2_catchesIf_X2_isThere : GoodIn wsX2_catchesIf wsX2_isThere := fun w h => ⟨List.mem_cons_of_mem _ (List.mem_append_right _ (List.mem_append_right _ (List.mem_append_right _ (List.mem_append_right _ (List.mem_append_right _ (List.mem_append_right _ (List.mem_append_right _ (List.mem_append_left _ h)))))))), good_of_word (gdX2_isThere w h)⟩
set_option maxRecDepth 20000 in
theorem gX2_catchesIf_X2_isThere : GoodIn wsX2_catchesIf (wsV RX2 77 RX2 yX2_isThere wsX2_isThere) := goodIn_app (a := bkV RX2 77 RX2 yX2_isThere) (fun w h => ⟨List.mem_cons_of_mem _ (List.mem_append_right _ (List.mem_append_right _ (List.mem_append_left _ h))), good_of_word (gd_bV _ _ _ _ w h)⟩) ggX2_catchesIf_X2_isThere
theorem ggX2_catchesIf_X2_wouldTake : GoodIn wsX2_catchesIf wsX2_wouldTake := fun w h => ⟨List.mem_cons_of_mem _ (List.mem_append_right _ (List.mem_append_right _ (List.mem_append_right _ (List.mem_append_right _ (List.mem_append_right _ (List.mem_append_right _ (List.mem_append_right _ (List.mem_append_right _ (List.mem_append_left _ h))))))))), good_of_word (gdX2_wouldTake w h)⟩
set_option maxRecDepth 20000 in
theorem gX2_catchesIf_X2_wouldTake : GoodIn wsX2_catchesIf (wsV RX2 81 RX2 yX2_wouldTake wsX2_wouldTake) := goodIn_app (a := bkV RX2 81 RX2 yX2_wouldTake) (fun w h => ⟨List.mem_cons_of_mem _ (List.mem_append_right _ (List.mem_append_right _ (List.mem_append_right _ (List.mem_append_left _ h)))), good_of_word (gd_bV _ _ _ _ w h)⟩) ggX2_catchesIf_X2_wouldTake
def tb_X2_catchesIf_1 : List (Nat × Instr × Nat) := [(0, .aload_n 0, 1), (1, .iload 4, 2), (3, .iload_n 3, 1), (4, .invokevirtual 74, 3), (7, .istore 5, 2), (9, .aload_n 0, 1), (10, .iload 5, 2), (12, .invokevirtual 77, 3), (15, .ifCond .eq 25, 3), (18, .aload_n 0, 1), (19, .aload_n 0, 1), (20, .getfield 15, 3), (23, .iload 5, 2), (25, .iaload, 1), (26, .iload_n 2, 1), (27, .iload_n 1, 1), (28, .iload 4, 2), (30, .invokevirtual 81, 3), (33, .ifCond .eq 7, 3), (36, .iconst 1, 1), (37, .goto 4, 3), (40, .iconst 0, 1), (41, .ireturn, 1)]
set_option maxRecDepth 100000 in
theorem tk_X2_catchesIf_1 : (tb_X2_catchesIf_1.all fun q => decide (decode cX2_catchesIf q.1 = .ok q.2)) = true := by decide +kernel
theorem dX2_catchesIf_0 : decode cX2_catchesIf 0 = .ok (.aload_n 0, 1) := tb_d tk_X2_catchesIf_1 0 (0, .aload_n 0, 1) rfl
theorem dX2_catchesIf_1 : decode cX2_catchesIf 1 = .ok (.iload 4, 2) := tb_d tk_X2_catchesIf_1 1 (1, .iload 4, 2) rfl
theorem dX2_catchesIf_3 : decode cX2_catchesIf 3 = .ok (.iload_n 3, 1) := tb_d tk_X2_catchesIf_1 2 (3, .iload_n 3, 1) rfl
theorem dX2_catchesIf_4 : decode cX2_catchesIf 4 = .ok (.invokevirtual 74, 3) := tb_d tk_X2_catchesIf_1 3 (4, .invokevirtual 74, 3) rfl
theorem dX2_catchesIf_7 : decode cX2_catchesIf 7 = .ok (.istore 5, 2) := tb_d tk_X2_catchesIf_1 4 (7, .istore 5, 2) rfl
theorem dX2_catchesIf_9 : decode cX2_catchesIf 9 = .ok (.aload_n 0, 1) := tb_d tk_X2_catchesIf_1 5 (9, .aload_n 0, 1) rfl
theorem dX2_catchesIf_10 : decode cX2_catchesIf 10 = .ok (.iload 5, 2) := tb_d tk_X2_catchesIf_1 6 (10, .iload 5, 2) rfl
theorem dX2_catchesIf_12 : decode cX2_catchesIf 12 = .ok (.invokevirtual 77, 3) := tb_d tk_X2_catchesIf_1 7 (12, .invokevirtual 77, 3) rfl
theorem dX2_catchesIf_15 : decode cX2_catchesIf 15 = .ok (.ifCond .eq 25, 3) := tb_d tk_X2_catchesIf_1 8 (15, .ifCond .eq 25, 3) rfl
theorem dX2_catchesIf_18 : decode cX2_catchesIf 18 = .ok (.aload_n 0, 1) := tb_d tk_X2_catchesIf_1 9 (18, .aload_n 0, 1) rfl
theorem dX2_catchesIf_19 : decode cX2_catchesIf 19 = .ok (.aload_n 0, 1) := tb_d tk_X2_catchesIf_1 10 (19, .aload_n 0, 1) rfl
theorem dX2_catchesIf_20 : decode cX2_catchesIf 20 = .ok (.getfield 15, 3) := tb_d tk_X2_catchesIf_1 11 (20, .getfield 15, 3) rfl
theorem dX2_catchesIf_23 : decode cX2_catchesIf 23 = .ok (.iload 5, 2) := tb_d tk_X2_catchesIf_1 12 (23, .iload 5, 2) rfl
theorem dX2_catchesIf_25 : decode cX2_catchesIf 25 = .ok (.iaload, 1) := tb_d tk_X2_catchesIf_1 13 (25, .iaload, 1) rfl
theorem dX2_catchesIf_26 : decode cX2_catchesIf 26 = .ok (.iload_n 2, 1) := tb_d tk_X2_catchesIf_1 14 (26, .iload_n 2, 1) rfl
theorem dX2_catchesIf_27 : decode cX2_catchesIf 27 = .ok (.iload_n 1, 1) := tb_d tk_X2_catchesIf_1 15 (27, .iload_n 1, 1) rfl
theorem dX2_catchesIf_28 : decode cX2_catchesIf 28 = .ok (.iload 4, 2) := tb_d tk_X2_catchesIf_1 16 (28, .iload 4, 2) rfl
theorem dX2_catchesIf_30 : decode cX2_catchesIf 30 = .ok (.invokevirtual 81, 3) := tb_d tk_X2_catchesIf_1 17 (30, .invokevirtual 81, 3) rfl
theorem dX2_catchesIf_33 : decode cX2_catchesIf 33 = .ok (.ifCond .eq 7, 3) := tb_d tk_X2_catchesIf_1 18 (33, .ifCond .eq 7, 3) rfl
theorem dX2_catchesIf_36 : decode cX2_catchesIf 36 = .ok (.iconst 1, 1) := tb_d tk_X2_catchesIf_1 19 (36, .iconst 1, 1) rfl
theorem dX2_catchesIf_37 : decode cX2_catchesIf 37 = .ok (.goto 4, 3) := tb_d tk_X2_catchesIf_1 20 (37, .goto 4, 3) rfl
theorem dX2_catchesIf_40 : decode cX2_catchesIf 40 = .ok (.iconst 0, 1) := tb_d tk_X2_catchesIf_1 21 (40, .iconst 0, 1) rfl
theorem dX2_catchesIf_41 : decode cX2_catchesIf 41 = .ok (.ireturn, 1) := tb_d tk_X2_catchesIf_1 22 (41, .ireturn, 1) rfl
theorem ggX2_catches_X2_secretIn : GoodIn wsX2_catches wsX2_secretIn := fun w h => ⟨List.mem_cons_of_mem _ (List.mem_append_right _ (List.mem_append_right _ (List.mem_append_right _ (List.mem_append_right _ (List.mem_append_right _ (List.mem_append_left _ h)))))), good_of_word (gdX2_secretIn w h)⟩
set_option maxRecDepth 20000 in
theorem gX2_catches_X2_secretIn : GoodIn wsX2_catches (wsV RX2 85 RX2 yX2_secretIn wsX2_secretIn) := goodIn_app (a := bkV RX2 85 RX2 yX2_secretIn) (fun w h => ⟨List.mem_cons_of_mem _ (List.mem_append_right _ (List.mem_append_left _ h)), good_of_word (gd_bV _ _ _ _ w h)⟩) ggX2_catches_X2_secretIn
theorem ggX2_catches_X2_catchesIf : GoodIn wsX2_catches wsX2_catchesIf := fun w h => ⟨List.mem_cons_of_mem _ (List.mem_append_right _ (List.mem_append_right _ (List.mem_append_right _ (List.mem_append_right _ (List.mem_append_right _ (List.mem_append_right _ (List.mem_append_left _ h))))))), good_of_word (gdX2_catchesIf w h)⟩
set_option maxRecDepth 20000 in
theorem gX2_catches_X2_catchesIf : GoodIn wsX2_catches (wsV RX2 89 RX2 yX2_catchesIf wsX2_catchesIf) := goodIn_app (a := bkV RX2 89 RX2 yX2_catchesIf) (fun w h => ⟨List.mem_cons_of_mem _ (List.mem_append_right _ (List.mem_append_right _ (List.mem_append_left _ h))), good_of_word (gd_bV _ _ _ _ w h)⟩) ggX2_catches_X2_catchesIf
def tb_X2_catches_1 : List (Nat × Instr × Nat) := [(0, .aload_n 0, 1), (1, .aload_n 0, 1), (2, .iload_n 3, 1), (3, .invokevirtual 85, 3), (6, .iload_n 1, 1), (7, .iload_n 2, 1), (8, .aload_n 0, 1), (9, .getfield 24, 3), (12, .getfield 58, 3), (15, .iload_n 3, 1), (16, .iadd, 1), (17, .invokevirtual 89, 3), (20, .ireturn, 1)]
set_option maxRecDepth 100000 in
theorem tk_X2_catches_1 : (tb_X2_catches_1.all fun q => decide (decode cX2_catches q.1 = .ok q.2)) = true := by decide +kernel
theorem dX2_catches_0 : decode cX2_catches 0 = .ok (.aload_n 0, 1) := tb_d tk_X2_catches_1 0 (0, .aload_n 0, 1) rfl
theorem dX2_catches_1 : decode cX2_catches 1 = .ok (.aload_n 0, 1) := tb_d tk_X2_catches_1 1 (1, .aload_n 0, 1) rfl
theorem dX2_catches_2 : decode cX2_catches 2 = .ok (.iload_n 3, 1) := tb_d tk_X2_catches_1 2 (2, .iload_n 3, 1) rfl
theorem dX2_catches_3 : decode cX2_catches 3 = .ok (.invokevirtual 85, 3) := tb_d tk_X2_catches_1 3 (3, .invokevirtual 85, 3) rfl
theorem dX2_catches_6 : decode cX2_catches 6 = .ok (.iload_n 1, 1) := tb_d tk_X2_catches_1 4 (6, .iload_n 1, 1) rfl
theorem dX2_catches_7 : decode cX2_catches 7 = .ok (.iload_n 2, 1) := tb_d tk_X2_catches_1 5 (7, .iload_n 2, 1) rfl
theorem dX2_catches_8 : decode cX2_catches 8 = .ok (.aload_n 0, 1) := tb_d tk_X2_catches_1 6 (8, .aload_n 0, 1) rfl
theorem dX2_catches_9 : decode cX2_catches 9 = .ok (.getfield 24, 3) := tb_d tk_X2_catches_1 7 (9, .getfield 24, 3) rfl
theorem dX2_catches_12 : decode cX2_catches 12 = .ok (.getfield 58, 3) := tb_d tk_X2_catches_1 8 (12, .getfield 58, 3) rfl
theorem dX2_catches_15 : decode cX2_catches 15 = .ok (.iload_n 3, 1) := tb_d tk_X2_catches_1 9 (15, .iload_n 3, 1) rfl
theorem dX2_catches_16 : decode cX2_catches 16 = .ok (.iadd, 1) := tb_d tk_X2_catches_1 10 (16, .iadd, 1) rfl
theorem dX2_catches_17 : decode cX2_catches 17 = .ok (.invokevirtual 89, 3) := tb_d tk_X2_catches_1 11 (17, .invokevirtual 89, 3) rfl
theorem dX2_catches_20 : decode cX2_catches 20 = .ok (.ireturn, 1) := tb_d tk_X2_catches_1 12 (20, .ireturn, 1) rfl
theorem ggX2_hoursOf_X2_guardOn : GoodIn wsX2_hoursOf wsX2_guardOn := fun w h => ⟨List.mem_cons_of_mem _ (List.mem_append_right _ (List.mem_append_right _ (List.mem_append_right _ (List.mem_append_right _ (List.mem_append_left _ h))))), good_of_word (gdX2_guardOn w h)⟩
set_option maxRecDepth 20000 in
theorem gX2_hoursOf_X2_guardOn : GoodIn wsX2_hoursOf (wsV RX2 74 RX2 yX2_guardOn wsX2_guardOn) := goodIn_app (a := bkV RX2 74 RX2 yX2_guardOn) (fun w h => ⟨List.mem_cons_of_mem _ (List.mem_append_right _ (List.mem_append_left _ h)), good_of_word (gd_bV _ _ _ _ w h)⟩) ggX2_hoursOf_X2_guardOn
theorem ggX2_hoursOf_X7_bit : GoodIn wsX2_hoursOf wsX7_bit := fun w h => ⟨List.mem_cons_of_mem _ (List.mem_append_right _ (List.mem_append_right _ (List.mem_append_right _ (List.mem_append_right _ (List.mem_append_right _ (List.mem_append_left _ h)))))), good_of_word (gdX7_bit w h)⟩
set_option maxRecDepth 20000 in
theorem gX2_hoursOf_X7_bit_n92 : GoodIn wsX2_hoursOf (wsX7_bit) := ggX2_hoursOf_X7_bit
def tb_X2_hoursOf_1 : List (Nat × Instr × Nat) := [(0, .iconst 0, 1), (1, .istore_n 2, 1), (2, .iconst 0, 1), (3, .istore_n 3, 1), (4, .iload_n 3, 1), (5, .bipush 6, 2), (7, .if_icmp .ge 38, 3), (10, .iload_n 2, 1), (11, .aload_n 0, 1), (12, .aload_n 0, 1), (13, .getfield 24, 3), (16, .getfield 58, 3), (19, .iload_n 3, 1), (20, .invokevirtual 74, 3), (23, .iload_n 1, 1), (24, .if_icmp .ne 7, 3), (27, .iconst 1, 1), (28, .goto 4, 3), (31, .iconst 0, 1), (32, .invokestatic 92, 3), (35, .iload_n 3, 1), (36, .ishl, 1), (37, .ior, 1), (38, .istore_n 2, 1), (39, .iinc 3 1, 3), (42, .goto (-38), 3), (45, .iload_n 2, 1), (46, .ireturn, 1)]
set_option maxRecDepth 100000 in
theorem tk_X2_hoursOf_1 : (tb_X2_hoursOf_1.all fun q => decide (decode cX2_hoursOf q.1 = .ok q.2)) = true := by decide +kernel
theorem dX2_hoursOf_0 : decode cX2_hoursOf 0 = .ok (.iconst 0, 1) := tb_d tk_X2_hoursOf_1 0 (0, .iconst 0, 1) rfl
theorem dX2_hoursOf_1 : decode cX2_hoursOf 1 = .ok (.istore_n 2, 1) := tb_d tk_X2_hoursOf_1 1 (1, .istore_n 2, 1) rfl
theorem dX2_hoursOf_2 : decode cX2_hoursOf 2 = .ok (.iconst 0, 1) := tb_d tk_X2_hoursOf_1 2 (2, .iconst 0, 1) rfl
theorem dX2_hoursOf_3 : decode cX2_hoursOf 3 = .ok (.istore_n 3, 1) := tb_d tk_X2_hoursOf_1 3 (3, .istore_n 3, 1) rfl
theorem dX2_hoursOf_4 : decode cX2_hoursOf 4 = .ok (.iload_n 3, 1) := tb_d tk_X2_hoursOf_1 4 (4, .iload_n 3, 1) rfl
theorem dX2_hoursOf_5 : decode cX2_hoursOf 5 = .ok (.bipush 6, 2) := tb_d tk_X2_hoursOf_1 5 (5, .bipush 6, 2) rfl
theorem dX2_hoursOf_7 : decode cX2_hoursOf 7 = .ok (.if_icmp .ge 38, 3) := tb_d tk_X2_hoursOf_1 6 (7, .if_icmp .ge 38, 3) rfl
theorem dX2_hoursOf_10 : decode cX2_hoursOf 10 = .ok (.iload_n 2, 1) := tb_d tk_X2_hoursOf_1 7 (10, .iload_n 2, 1) rfl
theorem dX2_hoursOf_11 : decode cX2_hoursOf 11 = .ok (.aload_n 0, 1) := tb_d tk_X2_hoursOf_1 8 (11, .aload_n 0, 1) rfl
theorem dX2_hoursOf_12 : decode cX2_hoursOf 12 = .ok (.aload_n 0, 1) := tb_d tk_X2_hoursOf_1 9 (12, .aload_n 0, 1) rfl
theorem dX2_hoursOf_13 : decode cX2_hoursOf 13 = .ok (.getfield 24, 3) := tb_d tk_X2_hoursOf_1 10 (13, .getfield 24, 3) rfl
theorem dX2_hoursOf_16 : decode cX2_hoursOf 16 = .ok (.getfield 58, 3) := tb_d tk_X2_hoursOf_1 11 (16, .getfield 58, 3) rfl
theorem dX2_hoursOf_19 : decode cX2_hoursOf 19 = .ok (.iload_n 3, 1) := tb_d tk_X2_hoursOf_1 12 (19, .iload_n 3, 1) rfl
theorem dX2_hoursOf_20 : decode cX2_hoursOf 20 = .ok (.invokevirtual 74, 3) := tb_d tk_X2_hoursOf_1 13 (20, .invokevirtual 74, 3) rfl
theorem dX2_hoursOf_23 : decode cX2_hoursOf 23 = .ok (.iload_n 1, 1) := tb_d tk_X2_hoursOf_1 14 (23, .iload_n 1, 1) rfl
theorem dX2_hoursOf_24 : decode cX2_hoursOf 24 = .ok (.if_icmp .ne 7, 3) := tb_d tk_X2_hoursOf_1 15 (24, .if_icmp .ne 7, 3) rfl
theorem dX2_hoursOf_27 : decode cX2_hoursOf 27 = .ok (.iconst 1, 1) := tb_d tk_X2_hoursOf_1 16 (27, .iconst 1, 1) rfl
theorem dX2_hoursOf_28 : decode cX2_hoursOf 28 = .ok (.goto 4, 3) := tb_d tk_X2_hoursOf_1 17 (28, .goto 4, 3) rfl
theorem dX2_hoursOf_31 : decode cX2_hoursOf 31 = .ok (.iconst 0, 1) := tb_d tk_X2_hoursOf_1 18 (31, .iconst 0, 1) rfl
theorem dX2_hoursOf_32 : decode cX2_hoursOf 32 = .ok (.invokestatic 92, 3) := tb_d tk_X2_hoursOf_1 19 (32, .invokestatic 92, 3) rfl
theorem dX2_hoursOf_35 : decode cX2_hoursOf 35 = .ok (.iload_n 3, 1) := tb_d tk_X2_hoursOf_1 20 (35, .iload_n 3, 1) rfl
theorem dX2_hoursOf_36 : decode cX2_hoursOf 36 = .ok (.ishl, 1) := tb_d tk_X2_hoursOf_1 21 (36, .ishl, 1) rfl
theorem dX2_hoursOf_37 : decode cX2_hoursOf 37 = .ok (.ior, 1) := tb_d tk_X2_hoursOf_1 22 (37, .ior, 1) rfl
theorem dX2_hoursOf_38 : decode cX2_hoursOf 38 = .ok (.istore_n 2, 1) := tb_d tk_X2_hoursOf_1 23 (38, .istore_n 2, 1) rfl
theorem dX2_hoursOf_39 : decode cX2_hoursOf 39 = .ok (.iinc 3 1, 3) := tb_d tk_X2_hoursOf_1 24 (39, .iinc 3 1, 3) rfl
theorem dX2_hoursOf_42 : decode cX2_hoursOf 42 = .ok (.goto (-38), 3) := tb_d tk_X2_hoursOf_1 25 (42, .goto (-38), 3) rfl
theorem dX2_hoursOf_45 : decode cX2_hoursOf 45 = .ok (.iload_n 2, 1) := tb_d tk_X2_hoursOf_1 26 (45, .iload_n 2, 1) rfl
theorem dX2_hoursOf_46 : decode cX2_hoursOf 46 = .ok (.ireturn, 1) := tb_d tk_X2_hoursOf_1 27 (46, .ireturn, 1) rfl
theorem ggX2_wordsIn_X2_catches : GoodIn wsX2_wordsIn wsX2_catches := fun w h => ⟨List.mem_cons_of_mem _ (List.mem_append_right _ (List.mem_append_right _ (List.mem_append_right _ (List.mem_append_right _ (List.mem_append_left _ h))))), good_of_word (gdX2_catches w h)⟩
set_option maxRecDepth 20000 in
theorem gX2_wordsIn_X2_catches : GoodIn wsX2_wordsIn (wsV RX2 96 RX2 yX2_catches wsX2_catches) := goodIn_app (a := bkV RX2 96 RX2 yX2_catches) (fun w h => ⟨List.mem_cons_of_mem _ (List.mem_append_right _ (List.mem_append_left _ h)), good_of_word (gd_bV _ _ _ _ w h)⟩) ggX2_wordsIn_X2_catches
theorem ggX2_wordsIn_X7_bit : GoodIn wsX2_wordsIn wsX7_bit := fun w h => ⟨List.mem_cons_of_mem _ (List.mem_append_right _ (List.mem_append_right _ (List.mem_append_right _ (List.mem_append_right _ (List.mem_append_right _ (List.mem_append_left _ h)))))), good_of_word (gdX7_bit w h)⟩
set_option maxRecDepth 20000 in
theorem gX2_wordsIn_X7_bit_n92 : GoodIn wsX2_wordsIn (wsX7_bit) := ggX2_wordsIn_X7_bit
def tb_X2_wordsIn_1 : List (Nat × Instr × Nat) := [(0, .iconst 0, 1), (1, .istore_n 3, 1), (2, .iconst 0, 1), (3, .istore 4, 2), (5, .iload 4, 2), (7, .aload_n 0, 1), (8, .getfield 45, 3), (11, .if_icmp .ge 34, 3), (14, .iload_n 3, 1), (15, .aload_n 0, 1), (16, .iload 4, 2), (18, .iload_n 1, 1), (19, .iload_n 2, 1), (20, .invokevirtual 96, 3), (23, .ifCond .ne 7, 3), (26, .iconst 1, 1), (27, .goto 4, 3), (30, .iconst 0, 1), (31, .invokestatic 92, 3), (34, .iload 4, 2), (36, .ishl, 1), (37, .ior, 1), (38, .istore_n 3, 1), (39, .iinc 4 1, 3), (42, .goto (-37), 3), (45, .iload_n 3, 1), (46, .ireturn, 1)]
set_option maxRecDepth 100000 in
theorem tk_X2_wordsIn_1 : (tb_X2_wordsIn_1.all fun q => decide (decode cX2_wordsIn q.1 = .ok q.2)) = true := by decide +kernel
theorem dX2_wordsIn_0 : decode cX2_wordsIn 0 = .ok (.iconst 0, 1) := tb_d tk_X2_wordsIn_1 0 (0, .iconst 0, 1) rfl
theorem dX2_wordsIn_1 : decode cX2_wordsIn 1 = .ok (.istore_n 3, 1) := tb_d tk_X2_wordsIn_1 1 (1, .istore_n 3, 1) rfl
theorem dX2_wordsIn_2 : decode cX2_wordsIn 2 = .ok (.iconst 0, 1) := tb_d tk_X2_wordsIn_1 2 (2, .iconst 0, 1) rfl
theorem dX2_wordsIn_3 : decode cX2_wordsIn 3 = .ok (.istore 4, 2) := tb_d tk_X2_wordsIn_1 3 (3, .istore 4, 2) rfl
theorem dX2_wordsIn_5 : decode cX2_wordsIn 5 = .ok (.iload 4, 2) := tb_d tk_X2_wordsIn_1 4 (5, .iload 4, 2) rfl
theorem dX2_wordsIn_7 : decode cX2_wordsIn 7 = .ok (.aload_n 0, 1) := tb_d tk_X2_wordsIn_1 5 (7, .aload_n 0, 1) rfl
theorem dX2_wordsIn_8 : decode cX2_wordsIn 8 = .ok (.getfield 45, 3) := tb_d tk_X2_wordsIn_1 6 (8, .getfield 45, 3) rfl
theorem dX2_wordsIn_11 : decode cX2_wordsIn 11 = .ok (.if_icmp .ge 34, 3) := tb_d tk_X2_wordsIn_1 7 (11, .if_icmp .ge 34, 3) rfl
theorem dX2_wordsIn_14 : decode cX2_wordsIn 14 = .ok (.iload_n 3, 1) := tb_d tk_X2_wordsIn_1 8 (14, .iload_n 3, 1) rfl
theorem dX2_wordsIn_15 : decode cX2_wordsIn 15 = .ok (.aload_n 0, 1) := tb_d tk_X2_wordsIn_1 9 (15, .aload_n 0, 1) rfl
theorem dX2_wordsIn_16 : decode cX2_wordsIn 16 = .ok (.iload 4, 2) := tb_d tk_X2_wordsIn_1 10 (16, .iload 4, 2) rfl
theorem dX2_wordsIn_18 : decode cX2_wordsIn 18 = .ok (.iload_n 1, 1) := tb_d tk_X2_wordsIn_1 11 (18, .iload_n 1, 1) rfl
theorem dX2_wordsIn_19 : decode cX2_wordsIn 19 = .ok (.iload_n 2, 1) := tb_d tk_X2_wordsIn_1 12 (19, .iload_n 2, 1) rfl
theorem dX2_wordsIn_20 : decode cX2_wordsIn 20 = .ok (.invokevirtual 96, 3) := tb_d tk_X2_wordsIn_1 13 (20, .invokevirtual 96, 3) rfl
theorem dX2_wordsIn_23 : decode cX2_wordsIn 23 = .ok (.ifCond .ne 7, 3) := tb_d tk_X2_wordsIn_1 14 (23, .ifCond .ne 7, 3) rfl
theorem dX2_wordsIn_26 : decode cX2_wordsIn 26 = .ok (.iconst 1, 1) := tb_d tk_X2_wordsIn_1 15 (26, .iconst 1, 1) rfl
theorem dX2_wordsIn_27 : decode cX2_wordsIn 27 = .ok (.goto 4, 3) := tb_d tk_X2_wordsIn_1 16 (27, .goto 4, 3) rfl
theorem dX2_wordsIn_30 : decode cX2_wordsIn 30 = .ok (.iconst 0, 1) := tb_d tk_X2_wordsIn_1 17 (30, .iconst 0, 1) rfl
theorem dX2_wordsIn_31 : decode cX2_wordsIn 31 = .ok (.invokestatic 92, 3) := tb_d tk_X2_wordsIn_1 18 (31, .invokestatic 92, 3) rfl
theorem dX2_wordsIn_34 : decode cX2_wordsIn 34 = .ok (.iload 4, 2) := tb_d tk_X2_wordsIn_1 19 (34, .iload 4, 2) rfl
theorem dX2_wordsIn_36 : decode cX2_wordsIn 36 = .ok (.ishl, 1) := tb_d tk_X2_wordsIn_1 20 (36, .ishl, 1) rfl
theorem dX2_wordsIn_37 : decode cX2_wordsIn 37 = .ok (.ior, 1) := tb_d tk_X2_wordsIn_1 21 (37, .ior, 1) rfl
theorem dX2_wordsIn_38 : decode cX2_wordsIn 38 = .ok (.istore_n 3, 1) := tb_d tk_X2_wordsIn_1 22 (38, .istore_n 3, 1) rfl
theorem dX2_wordsIn_39 : decode cX2_wordsIn 39 = .ok (.iinc 4 1, 3) := tb_d tk_X2_wordsIn_1 23 (39, .iinc 4 1, 3) rfl
theorem dX2_wordsIn_42 : decode cX2_wordsIn 42 = .ok (.goto (-37), 3) := tb_d tk_X2_wordsIn_1 24 (42, .goto (-37), 3) rfl
theorem dX2_wordsIn_45 : decode cX2_wordsIn 45 = .ok (.iload_n 3, 1) := tb_d tk_X2_wordsIn_1 25 (45, .iload_n 3, 1) rfl
theorem dX2_wordsIn_46 : decode cX2_wordsIn 46 = .ok (.ireturn, 1) := tb_d tk_X2_wordsIn_1 26 (46, .ireturn, 1) rfl
theorem ggX2_hoursOpen_X2_wordsIn : GoodIn wsX2_hoursOpen wsX2_wordsIn := fun w h => ⟨List.mem_cons_of_mem _ (List.mem_append_right _ (List.mem_append_right _ (List.mem_append_right _ (List.mem_append_right _ (List.mem_append_left _ h))))), good_of_word (gdX2_wordsIn w h)⟩
set_option maxRecDepth 20000 in
theorem gX2_hoursOpen_X2_wordsIn : GoodIn wsX2_hoursOpen (wsV RX2 100 RX2 yX2_wordsIn wsX2_wordsIn) := goodIn_app (a := bkV RX2 100 RX2 yX2_wordsIn) (fun w h => ⟨List.mem_cons_of_mem _ (List.mem_append_right _ (List.mem_append_left _ h)), good_of_word (gd_bV _ _ _ _ w h)⟩) ggX2_hoursOpen_X2_wordsIn
theorem ggX2_hoursOpen_X7_bit : GoodIn wsX2_hoursOpen wsX7_bit := fun w h => ⟨List.mem_cons_of_mem _ (List.mem_append_right _ (List.mem_append_right _ (List.mem_append_right _ (List.mem_append_right _ (List.mem_append_right _ (List.mem_append_left _ h)))))), good_of_word (gdX7_bit w h)⟩
set_option maxRecDepth 20000 in
theorem gX2_hoursOpen_X7_bit_n92 : GoodIn wsX2_hoursOpen (wsX7_bit) := ggX2_hoursOpen_X7_bit
def tb_X2_hoursOpen_1 : List (Nat × Instr × Nat) := [(0, .iconst 0, 1), (1, .istore_n 3, 1), (2, .iconst 0, 1), (3, .istore 4, 2), (5, .iload 4, 2), (7, .bipush 6, 2), (9, .if_icmp .ge 37, 3), (12, .iload_n 3, 1), (13, .iload_n 1, 1), (14, .aload_n 0, 1), (15, .iload 4, 2), (17, .iload_n 2, 1), (18, .invokevirtual 100, 3), (21, .iconst (-1), 1), (22, .ixor, 1), (23, .iand, 1), (24, .ifCond .ne 7, 3), (27, .iconst 1, 1), (28, .goto 4, 3), (31, .iconst 0, 1), (32, .invokestatic 92, 3), (35, .iload 4, 2), (37, .ishl, 1), (38, .ior, 1), (39, .istore_n 3, 1), (40, .iinc 4 1, 3), (43, .goto (-38), 3), (46, .iload_n 3, 1), (47, .ireturn, 1)]
set_option maxRecDepth 100000 in
theorem tk_X2_hoursOpen_1 : (tb_X2_hoursOpen_1.all fun q => decide (decode cX2_hoursOpen q.1 = .ok q.2)) = true := by decide +kernel
theorem dX2_hoursOpen_0 : decode cX2_hoursOpen 0 = .ok (.iconst 0, 1) := tb_d tk_X2_hoursOpen_1 0 (0, .iconst 0, 1) rfl
theorem dX2_hoursOpen_1 : decode cX2_hoursOpen 1 = .ok (.istore_n 3, 1) := tb_d tk_X2_hoursOpen_1 1 (1, .istore_n 3, 1) rfl
theorem dX2_hoursOpen_2 : decode cX2_hoursOpen 2 = .ok (.iconst 0, 1) := tb_d tk_X2_hoursOpen_1 2 (2, .iconst 0, 1) rfl
theorem dX2_hoursOpen_3 : decode cX2_hoursOpen 3 = .ok (.istore 4, 2) := tb_d tk_X2_hoursOpen_1 3 (3, .istore 4, 2) rfl
theorem dX2_hoursOpen_5 : decode cX2_hoursOpen 5 = .ok (.iload 4, 2) := tb_d tk_X2_hoursOpen_1 4 (5, .iload 4, 2) rfl
theorem dX2_hoursOpen_7 : decode cX2_hoursOpen 7 = .ok (.bipush 6, 2) := tb_d tk_X2_hoursOpen_1 5 (7, .bipush 6, 2) rfl
theorem dX2_hoursOpen_9 : decode cX2_hoursOpen 9 = .ok (.if_icmp .ge 37, 3) := tb_d tk_X2_hoursOpen_1 6 (9, .if_icmp .ge 37, 3) rfl
theorem dX2_hoursOpen_12 : decode cX2_hoursOpen 12 = .ok (.iload_n 3, 1) := tb_d tk_X2_hoursOpen_1 7 (12, .iload_n 3, 1) rfl
theorem dX2_hoursOpen_13 : decode cX2_hoursOpen 13 = .ok (.iload_n 1, 1) := tb_d tk_X2_hoursOpen_1 8 (13, .iload_n 1, 1) rfl
theorem dX2_hoursOpen_14 : decode cX2_hoursOpen 14 = .ok (.aload_n 0, 1) := tb_d tk_X2_hoursOpen_1 9 (14, .aload_n 0, 1) rfl
theorem dX2_hoursOpen_15 : decode cX2_hoursOpen 15 = .ok (.iload 4, 2) := tb_d tk_X2_hoursOpen_1 10 (15, .iload 4, 2) rfl
theorem dX2_hoursOpen_17 : decode cX2_hoursOpen 17 = .ok (.iload_n 2, 1) := tb_d tk_X2_hoursOpen_1 11 (17, .iload_n 2, 1) rfl
theorem dX2_hoursOpen_18 : decode cX2_hoursOpen 18 = .ok (.invokevirtual 100, 3) := tb_d tk_X2_hoursOpen_1 12 (18, .invokevirtual 100, 3) rfl
theorem dX2_hoursOpen_21 : decode cX2_hoursOpen 21 = .ok (.iconst (-1), 1) := tb_d tk_X2_hoursOpen_1 13 (21, .iconst (-1), 1) rfl
theorem dX2_hoursOpen_22 : decode cX2_hoursOpen 22 = .ok (.ixor, 1) := tb_d tk_X2_hoursOpen_1 14 (22, .ixor, 1) rfl
theorem dX2_hoursOpen_23 : decode cX2_hoursOpen 23 = .ok (.iand, 1) := tb_d tk_X2_hoursOpen_1 15 (23, .iand, 1) rfl
theorem dX2_hoursOpen_24 : decode cX2_hoursOpen 24 = .ok (.ifCond .ne 7, 3) := tb_d tk_X2_hoursOpen_1 16 (24, .ifCond .ne 7, 3) rfl
theorem dX2_hoursOpen_27 : decode cX2_hoursOpen 27 = .ok (.iconst 1, 1) := tb_d tk_X2_hoursOpen_1 17 (27, .iconst 1, 1) rfl
theorem dX2_hoursOpen_28 : decode cX2_hoursOpen 28 = .ok (.goto 4, 3) := tb_d tk_X2_hoursOpen_1 18 (28, .goto 4, 3) rfl
theorem dX2_hoursOpen_31 : decode cX2_hoursOpen 31 = .ok (.iconst 0, 1) := tb_d tk_X2_hoursOpen_1 19 (31, .iconst 0, 1) rfl
theorem dX2_hoursOpen_32 : decode cX2_hoursOpen 32 = .ok (.invokestatic 92, 3) := tb_d tk_X2_hoursOpen_1 20 (32, .invokestatic 92, 3) rfl
theorem dX2_hoursOpen_35 : decode cX2_hoursOpen 35 = .ok (.iload 4, 2) := tb_d tk_X2_hoursOpen_1 21 (35, .iload 4, 2) rfl
theorem dX2_hoursOpen_37 : decode cX2_hoursOpen 37 = .ok (.ishl, 1) := tb_d tk_X2_hoursOpen_1 22 (37, .ishl, 1) rfl
theorem dX2_hoursOpen_38 : decode cX2_hoursOpen 38 = .ok (.ior, 1) := tb_d tk_X2_hoursOpen_1 23 (38, .ior, 1) rfl
theorem dX2_hoursOpen_39 : decode cX2_hoursOpen 39 = .ok (.istore_n 3, 1) := tb_d tk_X2_hoursOpen_1 24 (39, .istore_n 3, 1) rfl
theorem dX2_hoursOpen_40 : decode cX2_hoursOpen 40 = .ok (.iinc 4 1, 3) := tb_d tk_X2_hoursOpen_1 25 (40, .iinc 4 1, 3) rfl
theorem dX2_hoursOpen_43 : decode cX2_hoursOpen 43 = .ok (.goto (-38), 3) := tb_d tk_X2_hoursOpen_1 26 (43, .goto (-38), 3) rfl
theorem dX2_hoursOpen_46 : decode cX2_hoursOpen 46 = .ok (.iload_n 3, 1) := tb_d tk_X2_hoursOpen_1 27 (46, .iload_n 3, 1) rfl
theorem dX2_hoursOpen_47 : decode cX2_hoursOpen 47 = .ok (.ireturn, 1) := tb_d tk_X2_hoursOpen_1 28 (47, .ireturn, 1) rfl
theorem ggX2_nightsUntil_X2_secretIn : GoodIn wsX2_nightsUntil wsX2_secretIn := fun w h => ⟨List.mem_cons_of_mem _ (List.mem_append_right _ (List.mem_append_right _ (List.mem_append_right _ (List.mem_append_right _ (List.mem_append_left _ h))))), good_of_word (gdX2_secretIn w h)⟩
set_option maxRecDepth 20000 in
theorem gX2_nightsUntil_X2_secretIn : GoodIn wsX2_nightsUntil (wsV RX2 85 RX2 yX2_secretIn wsX2_secretIn) := goodIn_app (a := bkV RX2 85 RX2 yX2_secretIn) (fun w h => ⟨List.mem_cons_of_mem _ (List.mem_append_right _ (List.mem_append_left _ h)), good_of_word (gd_bV _ _ _ _ w h)⟩) ggX2_nightsUntil_X2_secretIn
def tb_X2_nightsUntil_1 : List (Nat × Instr × Nat) := [(0, .iconst 0, 1), (1, .istore_n 2, 1), (2, .iload_n 2, 1), (3, .bipush 60, 2), (5, .if_icmp .gt 20, 3), (8, .aload_n 0, 1), (9, .iload_n 2, 1), (10, .invokevirtual 85, 3), (13, .iload_n 1, 1), (14, .if_icmp .ne 5, 3), (17, .iload_n 2, 1), (18, .ireturn, 1), (19, .iinc 2 1, 3), (22, .goto (-20), 3), (25, .ldc 103, 2), (27, .ireturn, 1)]
set_option maxRecDepth 100000 in
theorem tk_X2_nightsUntil_1 : (tb_X2_nightsUntil_1.all fun q => decide (decode cX2_nightsUntil q.1 = .ok q.2)) = true := by decide +kernel
theorem dX2_nightsUntil_0 : decode cX2_nightsUntil 0 = .ok (.iconst 0, 1) := tb_d tk_X2_nightsUntil_1 0 (0, .iconst 0, 1) rfl
theorem dX2_nightsUntil_1 : decode cX2_nightsUntil 1 = .ok (.istore_n 2, 1) := tb_d tk_X2_nightsUntil_1 1 (1, .istore_n 2, 1) rfl
theorem dX2_nightsUntil_2 : decode cX2_nightsUntil 2 = .ok (.iload_n 2, 1) := tb_d tk_X2_nightsUntil_1 2 (2, .iload_n 2, 1) rfl
