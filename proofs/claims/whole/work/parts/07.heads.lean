theorem hd_J6_bitCount_0f7a4 : yJ6_bitCount_0f7a4.cls ≠ "java/lang/invoke/MethodHandle" ∧ yJ6_bitCount_0f7a4.cls ≠ "java/lang/invoke/VarHandle" ∧ (parseMethodDescriptor yJ6_bitCount_0f7a4.desc).map (fun d => d.parameters.length) = some 1 := by decide +kernel
abbrev K_J6_bitCount_0f7a4 (args : List Value) (w : Wd) (Q : Option Value → Wd → Prop) : Prop := Con yJ6_bitCount_0f7a4 cJ6_bitCount_0f7a4 1 (some FieldType.int) 1 0 0 args w Q
theorem hd_X0_addPerson : yX0_addPerson.cls ≠ "java/lang/invoke/MethodHandle" ∧ yX0_addPerson.cls ≠ "java/lang/invoke/VarHandle" ∧ (parseMethodDescriptor yX0_addPerson.desc).map (fun d => d.parameters.length) = some 1 := by decide +kernel
abbrev K_X0_addPerson (args : List Value) (w : Wd) (Q : Option Value → Wd → Prop) : Prop := Con yX0_addPerson cX0_addPerson 3 (some FieldType.int) 1 0 0 args w Q
theorem hd_X0_addProject : yX0_addProject.cls ≠ "java/lang/invoke/MethodHandle" ∧ yX0_addProject.cls ≠ "java/lang/invoke/VarHandle" ∧ (parseMethodDescriptor yX0_addProject.desc).map (fun d => d.parameters.length) = some 1 := by decide +kernel
abbrev K_X0_addProject (args : List Value) (w : Wd) (Q : Option Value → Wd → Prop) : Prop := Con yX0_addProject cX0_addProject 3 (some FieldType.int) 1 0 0 args w Q
theorem hd_X0_collect : yX0_collect.cls ≠ "java/lang/invoke/MethodHandle" ∧ yX0_collect.cls ≠ "java/lang/invoke/VarHandle" ∧ (parseMethodDescriptor yX0_collect.desc).map (fun d => d.parameters.length) = some 1 := by decide +kernel
abbrev K_X0_collect (args : List Value) (w : Wd) (Q : Option Value → Wd → Prop) : Prop := Con yX0_collect cX0_collect 7 (some FieldType.int) 4 0 0 args w Q
theorem hd_X0_init : yX0_init.cls ≠ "java/lang/invoke/MethodHandle" ∧ yX0_init.cls ≠ "java/lang/invoke/VarHandle" ∧ (parseMethodDescriptor yX0_init.desc).map (fun d => d.parameters.length) = some 2 := by decide +kernel
abbrev K_X0_init (mc ms : Nat) (args : List Value) (w : Wd) (Q : Option Value → Wd → Prop) : Prop := Con yX0_init cX0_init 3 (none) 1 mc ms args w Q
theorem hd_X0_isCondition : yX0_isCondition.cls ≠ "java/lang/invoke/MethodHandle" ∧ yX0_isCondition.cls ≠ "java/lang/invoke/VarHandle" ∧ (parseMethodDescriptor yX0_isCondition.desc).map (fun d => d.parameters.length) = some 4 := by decide +kernel
abbrev K_X0_isCondition (args : List Value) (w : Wd) (Q : Option Value → Wd → Prop) : Prop := Con yX0_isCondition cX0_isCondition 5 (some FieldType.boolean) 2 0 0 args w Q
theorem hd_X0_makePledge : yX0_makePledge.cls ≠ "java/lang/invoke/MethodHandle" ∧ yX0_makePledge.cls ≠ "java/lang/invoke/VarHandle" ∧ (parseMethodDescriptor yX0_makePledge.desc).map (fun d => d.parameters.length) = some 5 := by decide +kernel
abbrev K_X0_makePledge (args : List Value) (w : Wd) (Q : Option Value → Wd → Prop) : Prop := Con yX0_makePledge cX0_makePledge 8 (some FieldType.int) 4 0 0 args w Q
theorem hd_X0_takeBack : yX0_takeBack.cls ≠ "java/lang/invoke/MethodHandle" ∧ yX0_takeBack.cls ≠ "java/lang/invoke/VarHandle" ∧ (parseMethodDescriptor yX0_takeBack.desc).map (fun d => d.parameters.length) = some 1 := by decide +kernel
abbrev K_X0_takeBack (args : List Value) (w : Wd) (Q : Option Value → Wd → Prop) : Prop := Con yX0_takeBack cX0_takeBack 4 (some FieldType.int) 4 0 0 args w Q
theorem hd_X1_failing : yX1_failing.cls ≠ "java/lang/invoke/MethodHandle" ∧ yX1_failing.cls ≠ "java/lang/invoke/VarHandle" ∧ (parseMethodDescriptor yX1_failing.desc).map (fun d => d.parameters.length) = some 2 := by decide +kernel
abbrev K_X1_failing (args : List Value) (w : Wd) (Q : Option Value → Wd → Prop) : Prop := Con yX1_failing cX1_failing 5 (some FieldType.int) 2 0 0 args w Q
theorem hd_X1_fallenWithout : yX1_fallenWithout.cls ≠ "java/lang/invoke/MethodHandle" ∧ yX1_fallenWithout.cls ≠ "java/lang/invoke/VarHandle" ∧ (parseMethodDescriptor yX1_fallenWithout.desc).map (fun d => d.parameters.length) = some 1 := by decide +kernel
abbrev K_X1_fallenWithout (args : List Value) (w : Wd) (Q : Option Value → Wd → Prop) : Prop := Con yX1_fallenWithout cX1_fallenWithout 2 (some FieldType.int) 6 0 0 args w Q
theorem hd_X1_gather : yX1_gather.cls ≠ "java/lang/invoke/MethodHandle" ∧ yX1_gather.cls ≠ "java/lang/invoke/VarHandle" ∧ (parseMethodDescriptor yX1_gather.desc).map (fun d => d.parameters.length) = some 1 := by decide +kernel
abbrev K_X1_gather (args : List Value) (w : Wd) (Q : Option Value → Wd → Prop) : Prop := Con yX1_gather cX1_gather 4 (none) 1 0 0 args w Q
theorem hd_X1_greatest : yX1_greatest.cls ≠ "java/lang/invoke/MethodHandle" ∧ yX1_greatest.cls ≠ "java/lang/invoke/VarHandle" ∧ (parseMethodDescriptor yX1_greatest.desc).map (fun d => d.parameters.length) = some 2 := by decide +kernel
abbrev K_X1_greatest (args : List Value) (w : Wd) (Q : Option Value → Wd → Prop) : Prop := Con yX1_greatest cX1_greatest 6 (some FieldType.int) 3 0 0 args w Q
theorem hd_X1_hasGoal : yX1_hasGoal.cls ≠ "java/lang/invoke/MethodHandle" ∧ yX1_hasGoal.cls ≠ "java/lang/invoke/VarHandle" ∧ (parseMethodDescriptor yX1_hasGoal.desc).map (fun d => d.parameters.length) = some 1 := by decide +kernel
abbrev K_X1_hasGoal (args : List Value) (w : Wd) (Q : Option Value → Wd → Prop) : Prop := Con yX1_hasGoal cX1_hasGoal 2 (some FieldType.boolean) 5 0 0 args w Q
theorem hd_X1_holds : yX1_holds.cls ≠ "java/lang/invoke/MethodHandle" ∧ yX1_holds.cls ≠ "java/lang/invoke/VarHandle" ∧ (parseMethodDescriptor yX1_holds.desc).map (fun d => d.parameters.length) = some 1 := by decide +kernel
abbrev K_X1_holds (args : List Value) (w : Wd) (Q : Option Value → Wd → Prop) : Prop := Con yX1_holds cX1_holds 5 (some FieldType.boolean) 1 0 0 args w Q
theorem hd_X1_init : yX1_init.cls ≠ "java/lang/invoke/MethodHandle" ∧ yX1_init.cls ≠ "java/lang/invoke/VarHandle" ∧ (parseMethodDescriptor yX1_init.desc).map (fun d => d.parameters.length) = some 1 := by decide +kernel
abbrev K_X1_init (mc ms : Nat) (args : List Value) (w : Wd) (Q : Option Value → Wd → Prop) : Prop := Con yX1_init cX1_init 2 (none) 1 mc ms args w Q
theorem hd_X1_needed : yX1_needed.cls ≠ "java/lang/invoke/MethodHandle" ∧ yX1_needed.cls ≠ "java/lang/invoke/VarHandle" ∧ (parseMethodDescriptor yX1_needed.desc).map (fun d => d.parameters.length) = some 1 := by decide +kernel
abbrev K_X1_needed (args : List Value) (w : Wd) (Q : Option Value → Wd → Prop) : Prop := Con yX1_needed cX1_needed 5 (some FieldType.int) 5 0 0 args w Q
theorem hd_X1_projectsWithGoal : yX1_projectsWithGoal.cls ≠ "java/lang/invoke/MethodHandle" ∧ yX1_projectsWithGoal.cls ≠ "java/lang/invoke/VarHandle" ∧ (parseMethodDescriptor yX1_projectsWithGoal.desc).map (fun d => d.parameters.length) = some 0 := by decide +kernel
abbrev K_X1_projectsWithGoal (args : List Value) (w : Wd) (Q : Option Value → Wd → Prop) : Prop := Con yX1_projectsWithGoal cX1_projectsWithGoal 3 (some FieldType.int) 6 0 0 args w Q
theorem hd_X1_push : yX1_push.cls ≠ "java/lang/invoke/MethodHandle" ∧ yX1_push.cls ≠ "java/lang/invoke/VarHandle" ∧ (parseMethodDescriptor yX1_push.desc).map (fun d => d.parameters.length) = some 1 := by decide +kernel
abbrev K_X1_push (args : List Value) (w : Wd) (Q : Option Value → Wd → Prop) : Prop := Con yX1_push cX1_push 6 (some FieldType.int) 6 0 0 args w Q
theorem hd_X1_reaches : yX1_reaches.cls ≠ "java/lang/invoke/MethodHandle" ∧ yX1_reaches.cls ≠ "java/lang/invoke/VarHandle" ∧ (parseMethodDescriptor yX1_reaches.desc).map (fun d => d.parameters.length) = some 3 := by decide +kernel
abbrev K_X1_reaches (args : List Value) (w : Wd) (Q : Option Value → Wd → Prop) : Prop := Con yX1_reaches cX1_reaches 5 (some FieldType.boolean) 4 0 0 args w Q
theorem hd_X1_reachesWith : yX1_reachesWith.cls ≠ "java/lang/invoke/MethodHandle" ∧ yX1_reachesWith.cls ≠ "java/lang/invoke/VarHandle" ∧ (parseMethodDescriptor yX1_reachesWith.desc).map (fun d => d.parameters.length) = some 2 := by decide +kernel
abbrev K_X1_reachesWith (args : List Value) (w : Wd) (Q : Option Value → Wd → Prop) : Prop := Con yX1_reachesWith cX1_reachesWith 4 (some FieldType.boolean) 4 0 0 args w Q
theorem hd_X1_setsThatHold : yX1_setsThatHold.cls ≠ "java/lang/invoke/MethodHandle" ∧ yX1_setsThatHold.cls ≠ "java/lang/invoke/VarHandle" ∧ (parseMethodDescriptor yX1_setsThatHold.desc).map (fun d => d.parameters.length) = some 0 := by decide +kernel
abbrev K_X1_setsThatHold (args : List Value) (w : Wd) (Q : Option Value → Wd → Prop) : Prop := Con yX1_setsThatHold cX1_setsThatHold 4 (some FieldType.int) 4 0 0 args w Q
theorem hd_X1_stand : yX1_stand.cls ≠ "java/lang/invoke/MethodHandle" ∧ yX1_stand.cls ≠ "java/lang/invoke/VarHandle" ∧ (parseMethodDescriptor yX1_stand.desc).map (fun d => d.parameters.length) = some 0 := by decide +kernel
abbrev K_X1_stand (args : List Value) (w : Wd) (Q : Option Value → Wd → Prop) : Prop := Con yX1_stand cX1_stand 1 (some FieldType.int) 5 0 0 args w Q
theorem hd_X1_standWithout : yX1_standWithout.cls ≠ "java/lang/invoke/MethodHandle" ∧ yX1_standWithout.cls ≠ "java/lang/invoke/VarHandle" ∧ (parseMethodDescriptor yX1_standWithout.desc).map (fun d => d.parameters.length) = some 1 := by decide +kernel
abbrev K_X1_standWithout (args : List Value) (w : Wd) (Q : Option Value → Wd → Prop) : Prop := Con yX1_standWithout cX1_standWithout 2 (some FieldType.int) 4 0 0 args w Q
theorem hd_X1_tip : yX1_tip.cls ≠ "java/lang/invoke/MethodHandle" ∧ yX1_tip.cls ≠ "java/lang/invoke/VarHandle" ∧ (parseMethodDescriptor yX1_tip.desc).map (fun d => d.parameters.length) = some 1 := by decide +kernel
abbrev K_X1_tip (args : List Value) (w : Wd) (Q : Option Value → Wd → Prop) : Prop := Con yX1_tip cX1_tip 6 (some FieldType.int) 5 0 0 args w Q
theorem hd_X1_waveOf : yX1_waveOf.cls ≠ "java/lang/invoke/MethodHandle" ∧ yX1_waveOf.cls ≠ "java/lang/invoke/VarHandle" ∧ (parseMethodDescriptor yX1_waveOf.desc).map (fun d => d.parameters.length) = some 1 := by decide +kernel
abbrev K_X1_waveOf (args : List Value) (w : Wd) (Q : Option Value → Wd → Prop) : Prop := Con yX1_waveOf cX1_waveOf 5 (some FieldType.int) 3 0 0 args w Q
theorem hd_X1_waves : yX1_waves.cls ≠ "java/lang/invoke/MethodHandle" ∧ yX1_waves.cls ≠ "java/lang/invoke/VarHandle" ∧ (parseMethodDescriptor yX1_waves.desc).map (fun d => d.parameters.length) = some 0 := by decide +kernel
abbrev K_X1_waves (args : List Value) (w : Wd) (Q : Option Value → Wd → Prop) : Prop := Con yX1_waves cX1_waves 5 (some FieldType.int) 3 0 0 args w Q
theorem hd_X2_copyFrom : yX2_copyFrom.cls ≠ "java/lang/invoke/MethodHandle" ∧ yX2_copyFrom.cls ≠ "java/lang/invoke/VarHandle" ∧ (parseMethodDescriptor yX2_copyFrom.desc).map (fun d => d.parameters.length) = some 1 := by decide +kernel
abbrev K_X2_copyFrom (args : List Value) (w : Wd) (Q : Option Value → Wd → Prop) : Prop := Con yX2_copyFrom cX2_copyFrom 2 (none) 1 0 0 args w Q
theorem hd_X2_hasPerson : yX2_hasPerson.cls ≠ "java/lang/invoke/MethodHandle" ∧ yX2_hasPerson.cls ≠ "java/lang/invoke/VarHandle" ∧ (parseMethodDescriptor yX2_hasPerson.desc).map (fun d => d.parameters.length) = some 1 := by decide +kernel
abbrev K_X2_hasPerson (args : List Value) (w : Wd) (Q : Option Value → Wd → Prop) : Prop := Con yX2_hasPerson cX2_hasPerson 2 (some FieldType.boolean) 1 0 0 args w Q
theorem hd_X2_hasPledge : yX2_hasPledge.cls ≠ "java/lang/invoke/MethodHandle" ∧ yX2_hasPledge.cls ≠ "java/lang/invoke/VarHandle" ∧ (parseMethodDescriptor yX2_hasPledge.desc).map (fun d => d.parameters.length) = some 1 := by decide +kernel
abbrev K_X2_hasPledge (args : List Value) (w : Wd) (Q : Option Value → Wd → Prop) : Prop := Con yX2_hasPledge cX2_hasPledge 2 (some FieldType.boolean) 2 0 0 args w Q
theorem hd_X2_hasProject : yX2_hasProject.cls ≠ "java/lang/invoke/MethodHandle" ∧ yX2_hasProject.cls ≠ "java/lang/invoke/VarHandle" ∧ (parseMethodDescriptor yX2_hasProject.desc).map (fun d => d.parameters.length) = some 1 := by decide +kernel
abbrev K_X2_hasProject (args : List Value) (w : Wd) (Q : Option Value → Wd → Prop) : Prop := Con yX2_hasProject cX2_hasProject 2 (some FieldType.boolean) 1 0 0 args w Q
theorem hd_X2_init : yX2_init.cls ≠ "java/lang/invoke/MethodHandle" ∧ yX2_init.cls ≠ "java/lang/invoke/VarHandle" ∧ (parseMethodDescriptor yX2_init.desc).map (fun d => d.parameters.length) = some 0 := by decide +kernel
abbrev K_X2_init (mc ms : Nat) (args : List Value) (w : Wd) (Q : Option Value → Wd → Prop) : Prop := Con yX2_init cX2_init 1 (none) 1 mc ms args w Q
theorem hd_X2_isClosed : yX2_isClosed.cls ≠ "java/lang/invoke/MethodHandle" ∧ yX2_isClosed.cls ≠ "java/lang/invoke/VarHandle" ∧ (parseMethodDescriptor yX2_isClosed.desc).map (fun d => d.parameters.length) = some 1 := by decide +kernel
abbrev K_X2_isClosed (args : List Value) (w : Wd) (Q : Option Value → Wd → Prop) : Prop := Con yX2_isClosed cX2_isClosed 2 (some FieldType.boolean) 1 0 0 args w Q
theorem hd_X2_lowestFreeNumber : yX2_lowestFreeNumber.cls ≠ "java/lang/invoke/MethodHandle" ∧ yX2_lowestFreeNumber.cls ≠ "java/lang/invoke/VarHandle" ∧ (parseMethodDescriptor yX2_lowestFreeNumber.desc).map (fun d => d.parameters.length) = some 0 := by decide +kernel
abbrev K_X2_lowestFreeNumber (args : List Value) (w : Wd) (Q : Option Value → Wd → Prop) : Prop := Con yX2_lowestFreeNumber cX2_lowestFreeNumber 2 (some FieldType.int) 3 0 0 args w Q
theorem hd_X2_pledges : yX2_pledges.cls ≠ "java/lang/invoke/MethodHandle" ∧ yX2_pledges.cls ≠ "java/lang/invoke/VarHandle" ∧ (parseMethodDescriptor yX2_pledges.desc).map (fun d => d.parameters.length) = some 0 := by decide +kernel
abbrev K_X2_pledges (args : List Value) (w : Wd) (Q : Option Value → Wd → Prop) : Prop := Con yX2_pledges cX2_pledges 1 (some FieldType.int) 1 0 0 args w Q
theorem hd_X2_pledgesFor : yX2_pledgesFor.cls ≠ "java/lang/invoke/MethodHandle" ∧ yX2_pledgesFor.cls ≠ "java/lang/invoke/VarHandle" ∧ (parseMethodDescriptor yX2_pledgesFor.desc).map (fun d => d.parameters.length) = some 1 := by decide +kernel
abbrev K_X2_pledgesFor (args : List Value) (w : Wd) (Q : Option Value → Wd → Prop) : Prop := Con yX2_pledgesFor cX2_pledgesFor 4 (some FieldType.int) 2 0 0 args w Q
theorem hd_X2_pledgesOf : yX2_pledgesOf.cls ≠ "java/lang/invoke/MethodHandle" ∧ yX2_pledgesOf.cls ≠ "java/lang/invoke/VarHandle" ∧ (parseMethodDescriptor yX2_pledgesOf.desc).map (fun d => d.parameters.length) = some 1 := by decide +kernel
abbrev K_X2_pledgesOf (args : List Value) (w : Wd) (Q : Option Value → Wd → Prop) : Prop := Con yX2_pledgesOf cX2_pledgesOf 4 (some FieldType.int) 2 0 0 args w Q
theorem hd_X2_pledgesUpTo : yX2_pledgesUpTo.cls ≠ "java/lang/invoke/MethodHandle" ∧ yX2_pledgesUpTo.cls ≠ "java/lang/invoke/VarHandle" ∧ (parseMethodDescriptor yX2_pledgesUpTo.desc).map (fun d => d.parameters.length) = some 1 := by decide +kernel
abbrev K_X2_pledgesUpTo (args : List Value) (w : Wd) (Q : Option Value → Wd → Prop) : Prop := Con yX2_pledgesUpTo cX2_pledgesUpTo 4 (some FieldType.int) 2 0 0 args w Q
theorem hd_X2_sum : yX2_sum.cls ≠ "java/lang/invoke/MethodHandle" ∧ yX2_sum.cls ≠ "java/lang/invoke/VarHandle" ∧ (parseMethodDescriptor yX2_sum.desc).map (fun d => d.parameters.length) = some 1 := by decide +kernel
abbrev K_X2_sum (args : List Value) (w : Wd) (Q : Option Value → Wd → Prop) : Prop := Con yX2_sum cX2_sum 4 (some FieldType.int) 1 0 0 args w Q
theorem hd_X2_thinkOfExtra : yX2_thinkOfExtra.cls ≠ "java/lang/invoke/MethodHandle" ∧ yX2_thinkOfExtra.cls ≠ "java/lang/invoke/VarHandle" ∧ (parseMethodDescriptor yX2_thinkOfExtra.desc).map (fun d => d.parameters.length) = some 2 := by decide +kernel
abbrev K_X2_thinkOfExtra (args : List Value) (w : Wd) (Q : Option Value → Wd → Prop) : Prop := Con yX2_thinkOfExtra cX2_thinkOfExtra 3 (none) 1 0 0 args w Q
theorem hd_X3_append : yX3_append.cls ≠ "java/lang/invoke/MethodHandle" ∧ yX3_append.cls ≠ "java/lang/invoke/VarHandle" ∧ (parseMethodDescriptor yX3_append.desc).map (fun d => d.parameters.length) = some 1 := by decide +kernel
abbrev K_X3_append (args : List Value) (w : Wd) (Q : Option Value → Wd → Prop) : Prop := Con yX3_append cX3_append 2 (some FieldType.int) 1 0 0 args w Q
theorem hd_X3_doCommand : yX3_doCommand.cls ≠ "java/lang/invoke/MethodHandle" ∧ yX3_doCommand.cls ≠ "java/lang/invoke/VarHandle" ∧ (parseMethodDescriptor yX3_doCommand.desc).map (fun d => d.parameters.length) = some 1 := by decide +kernel
abbrev K_X3_doCommand (args : List Value) (w : Wd) (Q : Option Value → Wd → Prop) : Prop := Con yX3_doCommand cX3_doCommand 2 (some FieldType.int) 5 0 0 args w Q
theorem hd_X3_empty : yX3_empty.cls ≠ "java/lang/invoke/MethodHandle" ∧ yX3_empty.cls ≠ "java/lang/invoke/VarHandle" ∧ (parseMethodDescriptor yX3_empty.desc).map (fun d => d.parameters.length) = some 0 := by decide +kernel
abbrev K_X3_empty (args : List Value) (w : Wd) (Q : Option Value → Wd → Prop) : Prop := Con yX3_empty cX3_empty 2 (some FieldType.int) 1 0 0 args w Q
theorem hd_X3_hasFault : yX3_hasFault.cls ≠ "java/lang/invoke/MethodHandle" ∧ yX3_hasFault.cls ≠ "java/lang/invoke/VarHandle" ∧ (parseMethodDescriptor yX3_hasFault.desc).map (fun d => d.parameters.length) = some 0 := by decide +kernel
abbrev K_X3_hasFault (args : List Value) (w : Wd) (Q : Option Value → Wd → Prop) : Prop := Con yX3_hasFault cX3_hasFault 1 (some FieldType.boolean) 1 0 0 args w Q
theorem hd_X3_init : yX3_init.cls ≠ "java/lang/invoke/MethodHandle" ∧ yX3_init.cls ≠ "java/lang/invoke/VarHandle" ∧ (parseMethodDescriptor yX3_init.desc).map (fun d => d.parameters.length) = some 0 := by decide +kernel
abbrev K_X3_init (mc ms : Nat) (args : List Value) (w : Wd) (Q : Option Value → Wd → Prop) : Prop := Con yX3_init cX3_init 1 (none) 2 mc ms args w Q
theorem hd_X3_numbersBehind : yX3_numbersBehind.cls ≠ "java/lang/invoke/MethodHandle" ∧ yX3_numbersBehind.cls ≠ "java/lang/invoke/VarHandle" ∧ (parseMethodDescriptor yX3_numbersBehind.desc).map (fun d => d.parameters.length) = some 1 := by decide +kernel
abbrev K_X3_numbersBehind (args : List Value) (w : Wd) (Q : Option Value → Wd → Prop) : Prop := Con yX3_numbersBehind cX3_numbersBehind 2 (some FieldType.int) 1 0 0 args w Q
theorem hd_X3_readCommand : yX3_readCommand.cls ≠ "java/lang/invoke/MethodHandle" ∧ yX3_readCommand.cls ≠ "java/lang/invoke/VarHandle" ∧ (parseMethodDescriptor yX3_readCommand.desc).map (fun d => d.parameters.length) = some 1 := by decide +kernel
abbrev K_X3_readCommand (args : List Value) (w : Wd) (Q : Option Value → Wd → Prop) : Prop := Con yX3_readCommand cX3_readCommand 7 (some FieldType.int) 3 0 0 args w Q
theorem hd_X3_readNumber : yX3_readNumber.cls ≠ "java/lang/invoke/MethodHandle" ∧ yX3_readNumber.cls ≠ "java/lang/invoke/VarHandle" ∧ (parseMethodDescriptor yX3_readNumber.desc).map (fun d => d.parameters.length) = some 2 := by decide +kernel
abbrev K_X3_readNumber (args : List Value) (w : Wd) (Q : Option Value → Wd → Prop) : Prop := Con yX3_readNumber cX3_readNumber 5 (some FieldType.int) 2 0 0 args w Q
theorem hd_X3_signAt : yX3_signAt.cls ≠ "java/lang/invoke/MethodHandle" ∧ yX3_signAt.cls ≠ "java/lang/invoke/VarHandle" ∧ (parseMethodDescriptor yX3_signAt.desc).map (fun d => d.parameters.length) = some 1 := by decide +kernel
abbrev K_X3_signAt (args : List Value) (w : Wd) (Q : Option Value → Wd → Prop) : Prop := Con yX3_signAt cX3_signAt 2 (some FieldType.char) 1 0 0 args w Q
theorem hd_X3_tellFault : yX3_tellFault.cls ≠ "java/lang/invoke/MethodHandle" ∧ yX3_tellFault.cls ≠ "java/lang/invoke/VarHandle" ∧ (parseMethodDescriptor yX3_tellFault.desc).map (fun d => d.parameters.length) = some 3 := by decide +kernel
abbrev K_X3_tellFault (args : List Value) (w : Wd) (Q : Option Value → Wd → Prop) : Prop := Con yX3_tellFault cX3_tellFault 4 (none) 1 0 0 args w Q
theorem hd_X3_tryOn : yX3_tryOn.cls ≠ "java/lang/invoke/MethodHandle" ∧ yX3_tryOn.cls ≠ "java/lang/invoke/VarHandle" ∧ (parseMethodDescriptor yX3_tryOn.desc).map (fun d => d.parameters.length) = some 1 := by decide +kernel
abbrev K_X3_tryOn (args : List Value) (w : Wd) (Q : Option Value → Wd → Prop) : Prop := Con yX3_tryOn cX3_tryOn 5 (none) 6 0 0 args w Q
theorem hd_X4_callIn : yX4_callIn.cls ≠ "java/lang/invoke/MethodHandle" ∧ yX4_callIn.cls ≠ "java/lang/invoke/VarHandle" ∧ (parseMethodDescriptor yX4_callIn.desc).map (fun d => d.parameters.length) = some 1 := by decide +kernel
abbrev K_X4_callIn (args : List Value) (w : Wd) (Q : Option Value → Wd → Prop) : Prop := Con yX4_callIn cX4_callIn 2 (some FieldType.int) 5 0 0 args w Q
theorem hd_X4_clearText : yX4_clearText.cls ≠ "java/lang/invoke/MethodHandle" ∧ yX4_clearText.cls ≠ "java/lang/invoke/VarHandle" ∧ (parseMethodDescriptor yX4_clearText.desc).map (fun d => d.parameters.length) = some 0 := by decide +kernel
abbrev K_X4_clearText (args : List Value) (w : Wd) (Q : Option Value → Wd → Prop) : Prop := Con yX4_clearText cX4_clearText 1 (some FieldType.int) 2 0 0 args w Q
theorem hd_X4_count : yX4_count.cls ≠ "java/lang/invoke/MethodHandle" ∧ yX4_count.cls ≠ "java/lang/invoke/VarHandle" ∧ (parseMethodDescriptor yX4_count.desc).map (fun d => d.parameters.length) = some 1 := by decide +kernel
abbrev K_X4_count (args : List Value) (w : Wd) (Q : Option Value → Wd → Prop) : Prop := Con yX4_count cX4_count 2 (some FieldType.int) 7 0 0 args w Q
theorem hd_X4_dropOldest : yX4_dropOldest.cls ≠ "java/lang/invoke/MethodHandle" ∧ yX4_dropOldest.cls ≠ "java/lang/invoke/VarHandle" ∧ (parseMethodDescriptor yX4_dropOldest.desc).map (fun d => d.parameters.length) = some 0 := by decide +kernel
abbrev K_X4_dropOldest (args : List Value) (w : Wd) (Q : Option Value → Wd → Prop) : Prop := Con yX4_dropOldest cX4_dropOldest 3 (none) 1 0 0 args w Q
theorem hd_X4_errorOfSet : yX4_errorOfSet.cls ≠ "java/lang/invoke/MethodHandle" ∧ yX4_errorOfSet.cls ≠ "java/lang/invoke/VarHandle" ∧ (parseMethodDescriptor yX4_errorOfSet.desc).map (fun d => d.parameters.length) = some 1 := by decide +kernel
abbrev K_X4_errorOfSet (args : List Value) (w : Wd) (Q : Option Value → Wd → Prop) : Prop := Con yX4_errorOfSet cX4_errorOfSet 2 (some FieldType.int) 2 0 0 args w Q
theorem hd_X4_fallOf : yX4_fallOf.cls ≠ "java/lang/invoke/MethodHandle" ∧ yX4_fallOf.cls ≠ "java/lang/invoke/VarHandle" ∧ (parseMethodDescriptor yX4_fallOf.desc).map (fun d => d.parameters.length) = some 1 := by decide +kernel
abbrev K_X4_fallOf (args : List Value) (w : Wd) (Q : Option Value → Wd → Prop) : Prop := Con yX4_fallOf cX4_fallOf 3 (some FieldType.int) 4 0 0 args w Q
theorem hd_X4_fault : yX4_fault.cls ≠ "java/lang/invoke/MethodHandle" ∧ yX4_fault.cls ≠ "java/lang/invoke/VarHandle" ∧ (parseMethodDescriptor yX4_fault.desc).map (fun d => d.parameters.length) = some 1 := by decide +kernel
abbrev K_X4_fault (args : List Value) (w : Wd) (Q : Option Value → Wd → Prop) : Prop := Con yX4_fault cX4_fault 2 (some FieldType.int) 7 0 0 args w Q
theorem hd_X4_init : yX4_init.cls ≠ "java/lang/invoke/MethodHandle" ∧ yX4_init.cls ≠ "java/lang/invoke/VarHandle" ∧ (parseMethodDescriptor yX4_init.desc).map (fun d => d.parameters.length) = some 0 := by decide +kernel
abbrev K_X4_init (mc ms : Nat) (args : List Value) (w : Wd) (Q : Option Value → Wd → Prop) : Prop := Con yX4_init cX4_init 2 (none) 3 mc ms args w Q
theorem hd_X4_keepState : yX4_keepState.cls ≠ "java/lang/invoke/MethodHandle" ∧ yX4_keepState.cls ≠ "java/lang/invoke/VarHandle" ∧ (parseMethodDescriptor yX4_keepState.desc).map (fun d => d.parameters.length) = some 0 := by decide +kernel
abbrev K_X4_keepState (args : List Value) (w : Wd) (Q : Option Value → Wd → Prop) : Prop := Con yX4_keepState cX4_keepState 1 (none) 2 0 0 args w Q
theorem hd_X4_keyOf : yX4_keyOf.cls ≠ "java/lang/invoke/MethodHandle" ∧ yX4_keyOf.cls ≠ "java/lang/invoke/VarHandle" ∧ (parseMethodDescriptor yX4_keyOf.desc).map (fun d => d.parameters.length) = some 2 := by decide +kernel
abbrev K_X4_keyOf (args : List Value) (w : Wd) (Q : Option Value → Wd → Prop) : Prop := Con yX4_keyOf cX4_keyOf 5 (some FieldType.long) 4 0 0 args w Q
theorem hd_X4_keysBelow : yX4_keysBelow.cls ≠ "java/lang/invoke/MethodHandle" ∧ yX4_keysBelow.cls ≠ "java/lang/invoke/VarHandle" ∧ (parseMethodDescriptor yX4_keysBelow.desc).map (fun d => d.parameters.length) = some 1 := by decide +kernel
abbrev K_X4_keysBelow (args : List Value) (w : Wd) (Q : Option Value → Wd → Prop) : Prop := Con yX4_keysBelow cX4_keysBelow 5 (some FieldType.int) 3 0 0 args w Q
theorem hd_X4_orderAt : yX4_orderAt.cls ≠ "java/lang/invoke/MethodHandle" ∧ yX4_orderAt.cls ≠ "java/lang/invoke/VarHandle" ∧ (parseMethodDescriptor yX4_orderAt.desc).map (fun d => d.parameters.length) = some 2 := by decide +kernel
abbrev K_X4_orderAt (args : List Value) (w : Wd) (Q : Option Value → Wd → Prop) : Prop := Con yX4_orderAt cX4_orderAt 4 (some FieldType.int) 5 0 0 args w Q
theorem hd_X4_person : yX4_person.cls ≠ "java/lang/invoke/MethodHandle" ∧ yX4_person.cls ≠ "java/lang/invoke/VarHandle" ∧ (parseMethodDescriptor yX4_person.desc).map (fun d => d.parameters.length) = some 1 := by decide +kernel
abbrev K_X4_person (args : List Value) (w : Wd) (Q : Option Value → Wd → Prop) : Prop := Con yX4_person cX4_person 2 (some FieldType.int) 3 0 0 args w Q
theorem hd_X4_personOf : yX4_personOf.cls ≠ "java/lang/invoke/MethodHandle" ∧ yX4_personOf.cls ≠ "java/lang/invoke/VarHandle" ∧ (parseMethodDescriptor yX4_personOf.desc).map (fun d => d.parameters.length) = some 2 := by decide +kernel
abbrev K_X4_personOf (args : List Value) (w : Wd) (Q : Option Value → Wd → Prop) : Prop := Con yX4_personOf cX4_personOf 4 (some FieldType.int) 7 0 0 args w Q
theorem hd_X4_play : yX4_play.cls ≠ "java/lang/invoke/MethodHandle" ∧ yX4_play.cls ≠ "java/lang/invoke/VarHandle" ∧ (parseMethodDescriptor yX4_play.desc).map (fun d => d.parameters.length) = some 0 := by decide +kernel
abbrev K_X4_play (args : List Value) (w : Wd) (Q : Option Value → Wd → Prop) : Prop := Con yX4_play cX4_play 1 (some FieldType.int) 7 0 0 args w Q
theorem hd_X4_pledge : yX4_pledge.cls ≠ "java/lang/invoke/MethodHandle" ∧ yX4_pledge.cls ≠ "java/lang/invoke/VarHandle" ∧ (parseMethodDescriptor yX4_pledge.desc).map (fun d => d.parameters.length) = some 5 := by decide +kernel
abbrev K_X4_pledge (args : List Value) (w : Wd) (Q : Option Value → Wd → Prop) : Prop := Con yX4_pledge cX4_pledge 6 (some FieldType.int) 5 0 0 args w Q
theorem hd_X4_pledgeOf : yX4_pledgeOf.cls ≠ "java/lang/invoke/MethodHandle" ∧ yX4_pledgeOf.cls ≠ "java/lang/invoke/VarHandle" ∧ (parseMethodDescriptor yX4_pledgeOf.desc).map (fun d => d.parameters.length) = some 2 := by decide +kernel
abbrev K_X4_pledgeOf (args : List Value) (w : Wd) (Q : Option Value → Wd → Prop) : Prop := Con yX4_pledgeOf cX4_pledgeOf 3 (some FieldType.int) 8 0 0 args w Q
theorem hd_X4_project : yX4_project.cls ≠ "java/lang/invoke/MethodHandle" ∧ yX4_project.cls ≠ "java/lang/invoke/VarHandle" ∧ (parseMethodDescriptor yX4_project.desc).map (fun d => d.parameters.length) = some 1 := by decide +kernel
abbrev K_X4_project (args : List Value) (w : Wd) (Q : Option Value → Wd → Prop) : Prop := Con yX4_project cX4_project 2 (some FieldType.int) 3 0 0 args w Q
theorem hd_X4_projectOf : yX4_projectOf.cls ≠ "java/lang/invoke/MethodHandle" ∧ yX4_projectOf.cls ≠ "java/lang/invoke/VarHandle" ∧ (parseMethodDescriptor yX4_projectOf.desc).map (fun d => d.parameters.length) = some 2 := by decide +kernel
abbrev K_X4_projectOf (args : List Value) (w : Wd) (Q : Option Value → Wd → Prop) : Prop := Con yX4_projectOf cX4_projectOf 4 (some FieldType.int) 7 0 0 args w Q
theorem hd_X4_setOf : yX4_setOf.cls ≠ "java/lang/invoke/MethodHandle" ∧ yX4_setOf.cls ≠ "java/lang/invoke/VarHandle" ∧ (parseMethodDescriptor yX4_setOf.desc).map (fun d => d.parameters.length) = some 2 := by decide +kernel
abbrev K_X4_setOf (args : List Value) (w : Wd) (Q : Option Value → Wd → Prop) : Prop := Con yX4_setOf cX4_setOf 4 (some FieldType.int) 4 0 0 args w Q
theorem hd_X4_settle : yX4_settle.cls ≠ "java/lang/invoke/MethodHandle" ∧ yX4_settle.cls ≠ "java/lang/invoke/VarHandle" ∧ (parseMethodDescriptor yX4_settle.desc).map (fun d => d.parameters.length) = some 1 := by decide +kernel
abbrev K_X4_settle (args : List Value) (w : Wd) (Q : Option Value → Wd → Prop) : Prop := Con yX4_settle cX4_settle 2 (some FieldType.int) 2 0 0 args w Q
theorem hd_X4_standing : yX4_standing.cls ≠ "java/lang/invoke/MethodHandle" ∧ yX4_standing.cls ≠ "java/lang/invoke/VarHandle" ∧ (parseMethodDescriptor yX4_standing.desc).map (fun d => d.parameters.length) = some 1 := by decide +kernel
abbrev K_X4_standing (args : List Value) (w : Wd) (Q : Option Value → Wd → Prop) : Prop := Con yX4_standing cX4_standing 3 (some FieldType.int) 5 0 0 args w Q
theorem hd_X4_toppledBy : yX4_toppledBy.cls ≠ "java/lang/invoke/MethodHandle" ∧ yX4_toppledBy.cls ≠ "java/lang/invoke/VarHandle" ∧ (parseMethodDescriptor yX4_toppledBy.desc).map (fun d => d.parameters.length) = some 1 := by decide +kernel
abbrev K_X4_toppledBy (args : List Value) (w : Wd) (Q : Option Value → Wd → Prop) : Prop := Con yX4_toppledBy cX4_toppledBy 3 (some FieldType.int) 7 0 0 args w Q
theorem hd_X4_type : yX4_type.cls ≠ "java/lang/invoke/MethodHandle" ∧ yX4_type.cls ≠ "java/lang/invoke/VarHandle" ∧ (parseMethodDescriptor yX4_type.desc).map (fun d => d.parameters.length) = some 1 := by decide +kernel
abbrev K_X4_type (args : List Value) (w : Wd) (Q : Option Value → Wd → Prop) : Prop := Con yX4_type cX4_type 2 (some FieldType.int) 2 0 0 args w Q
theorem hd_X4_undo : yX4_undo.cls ≠ "java/lang/invoke/MethodHandle" ∧ yX4_undo.cls ≠ "java/lang/invoke/VarHandle" ∧ (parseMethodDescriptor yX4_undo.desc).map (fun d => d.parameters.length) = some 0 := by decide +kernel
abbrev K_X4_undo (args : List Value) (w : Wd) (Q : Option Value → Wd → Prop) : Prop := Con yX4_undo cX4_undo 1 (some FieldType.int) 2 0 0 args w Q
theorem hd_X4_withdraw : yX4_withdraw.cls ≠ "java/lang/invoke/MethodHandle" ∧ yX4_withdraw.cls ≠ "java/lang/invoke/VarHandle" ∧ (parseMethodDescriptor yX4_withdraw.desc).map (fun d => d.parameters.length) = some 1 := by decide +kernel
abbrev K_X4_withdraw (args : List Value) (w : Wd) (Q : Option Value → Wd → Prop) : Prop := Con yX4_withdraw cX4_withdraw 2 (some FieldType.int) 5 0 0 args w Q
theorem hd_X5_acted : yX5_acted.cls ≠ "java/lang/invoke/MethodHandle" ∧ yX5_acted.cls ≠ "java/lang/invoke/VarHandle" ∧ (parseMethodDescriptor yX5_acted.desc).map (fun d => d.parameters.length) = some 1 := by decide +kernel
abbrev K_X5_acted (args : List Value) (w : Wd) (Q : Option Value → Wd → Prop) : Prop := Con yX5_acted cX5_acted 3 (some FieldType.int) 1 0 0 args w Q
theorem hd_X5_adds : yX5_adds.cls ≠ "java/lang/invoke/MethodHandle" ∧ yX5_adds.cls ≠ "java/lang/invoke/VarHandle" ∧ (parseMethodDescriptor yX5_adds.desc).map (fun d => d.parameters.length) = some 1 := by decide +kernel
abbrev K_X5_adds (args : List Value) (w : Wd) (Q : Option Value → Wd → Prop) : Prop := Con yX5_adds cX5_adds 2 (some FieldType.int) 2 0 0 args w Q
theorem hd_X5_amountOf : yX5_amountOf.cls ≠ "java/lang/invoke/MethodHandle" ∧ yX5_amountOf.cls ≠ "java/lang/invoke/VarHandle" ∧ (parseMethodDescriptor yX5_amountOf.desc).map (fun d => d.parameters.length) = some 1 := by decide +kernel
abbrev K_X5_amountOf (args : List Value) (w : Wd) (Q : Option Value → Wd → Prop) : Prop := Con yX5_amountOf cX5_amountOf 4 (some FieldType.int) 2 0 0 args w Q
theorem hd_X5_begins : yX5_begins.cls ≠ "java/lang/invoke/MethodHandle" ∧ yX5_begins.cls ≠ "java/lang/invoke/VarHandle" ∧ (parseMethodDescriptor yX5_begins.desc).map (fun d => d.parameters.length) = some 0 := by decide +kernel
abbrev K_X5_begins (args : List Value) (w : Wd) (Q : Option Value → Wd → Prop) : Prop := Con yX5_begins cX5_begins 2 (none) 1 0 0 args w Q
theorem hd_X5_callIn : yX5_callIn.cls ≠ "java/lang/invoke/MethodHandle" ∧ yX5_callIn.cls ≠ "java/lang/invoke/VarHandle" ∧ (parseMethodDescriptor yX5_callIn.desc).map (fun d => d.parameters.length) = some 1 := by decide +kernel
abbrev K_X5_callIn (args : List Value) (w : Wd) (Q : Option Value → Wd → Prop) : Prop := Con yX5_callIn cX5_callIn 2 (some FieldType.int) 8 0 0 args w Q
theorem hd_X5_called : yX5_called.cls ≠ "java/lang/invoke/MethodHandle" ∧ yX5_called.cls ≠ "java/lang/invoke/VarHandle" ∧ (parseMethodDescriptor yX5_called.desc).map (fun d => d.parameters.length) = some 0 := by decide +kernel
abbrev K_X5_called (args : List Value) (w : Wd) (Q : Option Value → Wd → Prop) : Prop := Con yX5_called cX5_called 1 (some FieldType.int) 3 0 0 args w Q
theorem hd_X5_calls : yX5_calls.cls ≠ "java/lang/invoke/MethodHandle" ∧ yX5_calls.cls ≠ "java/lang/invoke/VarHandle" ∧ (parseMethodDescriptor yX5_calls.desc).map (fun d => d.parameters.length) = some 1 := by decide +kernel
abbrev K_X5_calls (args : List Value) (w : Wd) (Q : Option Value → Wd → Prop) : Prop := Con yX5_calls cX5_calls 6 (some FieldType.int) 7 0 0 args w Q
theorem hd_X5_clearText : yX5_clearText.cls ≠ "java/lang/invoke/MethodHandle" ∧ yX5_clearText.cls ≠ "java/lang/invoke/VarHandle" ∧ (parseMethodDescriptor yX5_clearText.desc).map (fun d => d.parameters.length) = some 0 := by decide +kernel
abbrev K_X5_clearText (args : List Value) (w : Wd) (Q : Option Value → Wd → Prop) : Prop := Con yX5_clearText cX5_clearText 2 (some FieldType.int) 1 0 0 args w Q
theorem hd_X5_comes : yX5_comes.cls ≠ "java/lang/invoke/MethodHandle" ∧ yX5_comes.cls ≠ "java/lang/invoke/VarHandle" ∧ (parseMethodDescriptor yX5_comes.desc).map (fun d => d.parameters.length) = some 1 := by decide +kernel
abbrev K_X5_comes (args : List Value) (w : Wd) (Q : Option Value → Wd → Prop) : Prop := Con yX5_comes cX5_comes 2 (some FieldType.int) 2 0 0 args w Q
theorem hd_X5_command : yX5_command.cls ≠ "java/lang/invoke/MethodHandle" ∧ yX5_command.cls ≠ "java/lang/invoke/VarHandle" ∧ (parseMethodDescriptor yX5_command.desc).map (fun d => d.parameters.length) = some 0 := by decide +kernel
abbrev K_X5_command (args : List Value) (w : Wd) (Q : Option Value → Wd → Prop) : Prop := Con yX5_command cX5_command 4 (some FieldType.int) 8 0 0 args w Q
theorem hd_X5_count : yX5_count.cls ≠ "java/lang/invoke/MethodHandle" ∧ yX5_count.cls ≠ "java/lang/invoke/VarHandle" ∧ (parseMethodDescriptor yX5_count.desc).map (fun d => d.parameters.length) = some 1 := by decide +kernel
abbrev K_X5_count (args : List Value) (w : Wd) (Q : Option Value → Wd → Prop) : Prop := Con yX5_count cX5_count 2 (some FieldType.int) 8 0 0 args w Q
theorem hd_X5_does : yX5_does.cls ≠ "java/lang/invoke/MethodHandle" ∧ yX5_does.cls ≠ "java/lang/invoke/VarHandle" ∧ (parseMethodDescriptor yX5_does.desc).map (fun d => d.parameters.length) = some 0 := by decide +kernel
abbrev K_X5_does (args : List Value) (w : Wd) (Q : Option Value → Wd → Prop) : Prop := Con yX5_does cX5_does 3 (some FieldType.int) 9 0 0 args w Q
theorem hd_X5_fallingOf : yX5_fallingOf.cls ≠ "java/lang/invoke/MethodHandle" ∧ yX5_fallingOf.cls ≠ "java/lang/invoke/VarHandle" ∧ (parseMethodDescriptor yX5_fallingOf.desc).map (fun d => d.parameters.length) = some 2 := by decide +kernel
abbrev K_X5_fallingOf (args : List Value) (w : Wd) (Q : Option Value → Wd → Prop) : Prop := Con yX5_fallingOf cX5_fallingOf 5 (some FieldType.int) 4 0 0 args w Q
theorem hd_X5_fault : yX5_fault.cls ≠ "java/lang/invoke/MethodHandle" ∧ yX5_fault.cls ≠ "java/lang/invoke/VarHandle" ∧ (parseMethodDescriptor yX5_fault.desc).map (fun d => d.parameters.length) = some 1 := by decide +kernel
abbrev K_X5_fault (args : List Value) (w : Wd) (Q : Option Value → Wd → Prop) : Prop := Con yX5_fault cX5_fault 3 (some FieldType.int) 10 0 0 args w Q
theorem hd_X5_forgets : yX5_forgets.cls ≠ "java/lang/invoke/MethodHandle" ∧ yX5_forgets.cls ≠ "java/lang/invoke/VarHandle" ∧ (parseMethodDescriptor yX5_forgets.desc).map (fun d => d.parameters.length) = some 1 := by decide +kernel
abbrev K_X5_forgets (args : List Value) (w : Wd) (Q : Option Value → Wd → Prop) : Prop := Con yX5_forgets cX5_forgets 3 (none) 1 0 0 args w Q
theorem hd_X5_goal : yX5_goal.cls ≠ "java/lang/invoke/MethodHandle" ∧ yX5_goal.cls ≠ "java/lang/invoke/VarHandle" ∧ (parseMethodDescriptor yX5_goal.desc).map (fun d => d.parameters.length) = some 1 := by decide +kernel
abbrev K_X5_goal (args : List Value) (w : Wd) (Q : Option Value → Wd → Prop) : Prop := Con yX5_goal cX5_goal 2 (some FieldType.int) 1 0 0 args w Q
theorem hd_X5_goalsNow : yX5_goalsNow.cls ≠ "java/lang/invoke/MethodHandle" ∧ yX5_goalsNow.cls ≠ "java/lang/invoke/VarHandle" ∧ (parseMethodDescriptor yX5_goalsNow.desc).map (fun d => d.parameters.length) = some 0 := by decide +kernel
abbrev K_X5_goalsNow (args : List Value) (w : Wd) (Q : Option Value → Wd → Prop) : Prop := Con yX5_goalsNow cX5_goalsNow 4 (some FieldType.int) 7 0 0 args w Q
theorem hd_X5_greatest : yX5_greatest.cls ≠ "java/lang/invoke/MethodHandle" ∧ yX5_greatest.cls ≠ "java/lang/invoke/VarHandle" ∧ (parseMethodDescriptor yX5_greatest.desc).map (fun d => d.parameters.length) = some 2 := by decide +kernel
abbrev K_X5_greatest (args : List Value) (w : Wd) (Q : Option Value → Wd → Prop) : Prop := Con yX5_greatest cX5_greatest 6 (some FieldType.int) 5 0 0 args w Q
theorem hd_X5_has : yX5_has.cls ≠ "java/lang/invoke/MethodHandle" ∧ yX5_has.cls ≠ "java/lang/invoke/VarHandle" ∧ (parseMethodDescriptor yX5_has.desc).map (fun d => d.parameters.length) = some 2 := by decide +kernel
abbrev K_X5_has (args : List Value) (w : Wd) (Q : Option Value → Wd → Prop) : Prop := Con yX5_has cX5_has 2 (some FieldType.boolean) 1 0 0 args w Q
theorem hd_X5_hasGoal : yX5_hasGoal.cls ≠ "java/lang/invoke/MethodHandle" ∧ yX5_hasGoal.cls ≠ "java/lang/invoke/VarHandle" ∧ (parseMethodDescriptor yX5_hasGoal.desc).map (fun d => d.parameters.length) = some 2 := by decide +kernel
abbrev K_X5_hasGoal (args : List Value) (w : Wd) (Q : Option Value → Wd → Prop) : Prop := Con yX5_hasGoal cX5_hasGoal 3 (some FieldType.boolean) 3 0 0 args w Q
theorem hd_X5_here : yX5_here.cls ≠ "java/lang/invoke/MethodHandle" ∧ yX5_here.cls ≠ "java/lang/invoke/VarHandle" ∧ (parseMethodDescriptor yX5_here.desc).map (fun d => d.parameters.length) = some 0 := by decide +kernel
abbrev K_X5_here (args : List Value) (w : Wd) (Q : Option Value → Wd → Prop) : Prop := Con yX5_here cX5_here 1 (some FieldType.int) 1 0 0 args w Q
theorem hd_X5_holds : yX5_holds.cls ≠ "java/lang/invoke/MethodHandle" ∧ yX5_holds.cls ≠ "java/lang/invoke/VarHandle" ∧ (parseMethodDescriptor yX5_holds.desc).map (fun d => d.parameters.length) = some 2 := by decide +kernel
abbrev K_X5_holds (args : List Value) (w : Wd) (Q : Option Value → Wd → Prop) : Prop := Con yX5_holds cX5_holds 5 (some FieldType.boolean) 3 0 0 args w Q
theorem hd_X5_in : yX5_in.cls ≠ "java/lang/invoke/MethodHandle" ∧ yX5_in.cls ≠ "java/lang/invoke/VarHandle" ∧ (parseMethodDescriptor yX5_in.desc).map (fun d => d.parameters.length) = some 3 := by decide +kernel
abbrev K_X5_in (args : List Value) (w : Wd) (Q : Option Value → Wd → Prop) : Prop := Con yX5_in cX5_in 3 (some FieldType.boolean) 1 0 0 args w Q
theorem hd_X5_init : yX5_init.cls ≠ "java/lang/invoke/MethodHandle" ∧ yX5_init.cls ≠ "java/lang/invoke/VarHandle" ∧ (parseMethodDescriptor yX5_init.desc).map (fun d => d.parameters.length) = some 0 := by decide +kernel
abbrev K_X5_init (mc ms : Nat) (args : List Value) (w : Wd) (Q : Option Value → Wd → Prop) : Prop := Con yX5_init cX5_init 1 (none) 1 mc ms args w Q
theorem hd_X5_isAhead : yX5_isAhead.cls ≠ "java/lang/invoke/MethodHandle" ∧ yX5_isAhead.cls ≠ "java/lang/invoke/VarHandle" ∧ (parseMethodDescriptor yX5_isAhead.desc).map (fun d => d.parameters.length) = some 4 := by decide +kernel
abbrev K_X5_isAhead (args : List Value) (w : Wd) (Q : Option Value → Wd → Prop) : Prop := Con yX5_isAhead cX5_isAhead 8 (some FieldType.boolean) 2 0 0 args w Q
theorem hd_X5_isClosed : yX5_isClosed.cls ≠ "java/lang/invoke/MethodHandle" ∧ yX5_isClosed.cls ≠ "java/lang/invoke/VarHandle" ∧ (parseMethodDescriptor yX5_isClosed.desc).map (fun d => d.parameters.length) = some 1 := by decide +kernel
abbrev K_X5_isClosed (args : List Value) (w : Wd) (Q : Option Value → Wd → Prop) : Prop := Con yX5_isClosed cX5_isClosed 2 (some FieldType.boolean) 1 0 0 args w Q
theorem hd_X5_isCondition : yX5_isCondition.cls ≠ "java/lang/invoke/MethodHandle" ∧ yX5_isCondition.cls ≠ "java/lang/invoke/VarHandle" ∧ (parseMethodDescriptor yX5_isCondition.desc).map (fun d => d.parameters.length) = some 4 := by decide +kernel
abbrev K_X5_isCondition (args : List Value) (w : Wd) (Q : Option Value → Wd → Prop) : Prop := Con yX5_isCondition cX5_isCondition 5 (some FieldType.boolean) 3 0 0 args w Q
theorem hd_X5_isOf : yX5_isOf.cls ≠ "java/lang/invoke/MethodHandle" ∧ yX5_isOf.cls ≠ "java/lang/invoke/VarHandle" ∧ (parseMethodDescriptor yX5_isOf.desc).map (fun d => d.parameters.length) = some 2 := by decide +kernel
abbrev K_X5_isOf (args : List Value) (w : Wd) (Q : Option Value → Wd → Prop) : Prop := Con yX5_isOf cX5_isOf 5 (some FieldType.boolean) 2 0 0 args w Q
theorem hd_X5_isPerson : yX5_isPerson.cls ≠ "java/lang/invoke/MethodHandle" ∧ yX5_isPerson.cls ≠ "java/lang/invoke/VarHandle" ∧ (parseMethodDescriptor yX5_isPerson.desc).map (fun d => d.parameters.length) = some 1 := by decide +kernel
abbrev K_X5_isPerson (args : List Value) (w : Wd) (Q : Option Value → Wd → Prop) : Prop := Con yX5_isPerson cX5_isPerson 2 (some FieldType.boolean) 2 0 0 args w Q
theorem hd_X5_isPledge : yX5_isPledge.cls ≠ "java/lang/invoke/MethodHandle" ∧ yX5_isPledge.cls ≠ "java/lang/invoke/VarHandle" ∧ (parseMethodDescriptor yX5_isPledge.desc).map (fun d => d.parameters.length) = some 1 := by decide +kernel
abbrev K_X5_isPledge (args : List Value) (w : Wd) (Q : Option Value → Wd → Prop) : Prop := Con yX5_isPledge cX5_isPledge 2 (some FieldType.boolean) 2 0 0 args w Q
theorem hd_X5_isProject : yX5_isProject.cls ≠ "java/lang/invoke/MethodHandle" ∧ yX5_isProject.cls ≠ "java/lang/invoke/VarHandle" ∧ (parseMethodDescriptor yX5_isProject.desc).map (fun d => d.parameters.length) = some 1 := by decide +kernel
abbrev K_X5_isProject (args : List Value) (w : Wd) (Q : Option Value → Wd → Prop) : Prop := Con yX5_isProject cX5_isProject 2 (some FieldType.boolean) 2 0 0 args w Q
theorem hd_X5_isSet : yX5_isSet.cls ≠ "java/lang/invoke/MethodHandle" ∧ yX5_isSet.cls ≠ "java/lang/invoke/VarHandle" ∧ (parseMethodDescriptor yX5_isSet.desc).map (fun d => d.parameters.length) = some 1 := by decide +kernel
abbrev K_X5_isSet (args : List Value) (w : Wd) (Q : Option Value → Wd → Prop) : Prop := Con yX5_isSet cX5_isSet 2 (some FieldType.boolean) 3 0 0 args w Q
theorem hd_X5_lowestFree : yX5_lowestFree.cls ≠ "java/lang/invoke/MethodHandle" ∧ yX5_lowestFree.cls ≠ "java/lang/invoke/VarHandle" ∧ (parseMethodDescriptor yX5_lowestFree.desc).map (fun d => d.parameters.length) = some 0 := by decide +kernel
abbrev K_X5_lowestFree (args : List Value) (w : Wd) (Q : Option Value → Wd → Prop) : Prop := Con yX5_lowestFree cX5_lowestFree 3 (some FieldType.int) 2 0 0 args w Q
theorem hd_X5_makes : yX5_makes.cls ≠ "java/lang/invoke/MethodHandle" ∧ yX5_makes.cls ≠ "java/lang/invoke/VarHandle" ∧ (parseMethodDescriptor yX5_makes.desc).map (fun d => d.parameters.length) = some 5 := by decide +kernel
abbrev K_X5_makes (args : List Value) (w : Wd) (Q : Option Value → Wd → Prop) : Prop := Con yX5_makes cX5_makes 8 (some FieldType.int) 4 0 0 args w Q
theorem hd_X5_many : yX5_many.cls ≠ "java/lang/invoke/MethodHandle" ∧ yX5_many.cls ≠ "java/lang/invoke/VarHandle" ∧ (parseMethodDescriptor yX5_many.desc).map (fun d => d.parameters.length) = some 1 := by decide +kernel
abbrev K_X5_many (args : List Value) (w : Wd) (Q : Option Value → Wd → Prop) : Prop := Con yX5_many cX5_many 3 (some FieldType.int) 2 0 0 args w Q
theorem hd_X5_manyFor : yX5_manyFor.cls ≠ "java/lang/invoke/MethodHandle" ∧ yX5_manyFor.cls ≠ "java/lang/invoke/VarHandle" ∧ (parseMethodDescriptor yX5_manyFor.desc).map (fun d => d.parameters.length) = some 2 := by decide +kernel
abbrev K_X5_manyFor (args : List Value) (w : Wd) (Q : Option Value → Wd → Prop) : Prop := Con yX5_manyFor cX5_manyFor 5 (some FieldType.int) 2 0 0 args w Q
theorem hd_X5_moneyFor : yX5_moneyFor.cls ≠ "java/lang/invoke/MethodHandle" ∧ yX5_moneyFor.cls ≠ "java/lang/invoke/VarHandle" ∧ (parseMethodDescriptor yX5_moneyFor.desc).map (fun d => d.parameters.length) = some 2 := by decide +kernel
abbrev K_X5_moneyFor (args : List Value) (w : Wd) (Q : Option Value → Wd → Prop) : Prop := Con yX5_moneyFor cX5_moneyFor 5 (some FieldType.int) 2 0 0 args w Q
theorem hd_X5_must : yX5_must.cls ≠ "java/lang/invoke/MethodHandle" ∧ yX5_must.cls ≠ "java/lang/invoke/VarHandle" ∧ (parseMethodDescriptor yX5_must.desc).map (fun d => d.parameters.length) = some 1 := by decide +kernel
abbrev K_X5_must (args : List Value) (w : Wd) (Q : Option Value → Wd → Prop) : Prop := Con yX5_must cX5_must 2 (none) 2 0 0 args w Q
theorem hd_X5_neededFor : yX5_neededFor.cls ≠ "java/lang/invoke/MethodHandle" ∧ yX5_neededFor.cls ≠ "java/lang/invoke/VarHandle" ∧ (parseMethodDescriptor yX5_neededFor.desc).map (fun d => d.parameters.length) = some 1 := by decide +kernel
abbrev K_X5_neededFor (args : List Value) (w : Wd) (Q : Option Value → Wd → Prop) : Prop := Con yX5_neededFor cX5_neededFor 5 (some FieldType.int) 7 0 0 args w Q
theorem hd_X5_of : yX5_of.cls ≠ "java/lang/invoke/MethodHandle" ∧ yX5_of.cls ≠ "java/lang/invoke/VarHandle" ∧ (parseMethodDescriptor yX5_of.desc).map (fun d => d.parameters.length) = some 2 := by decide +kernel
abbrev K_X5_of (args : List Value) (w : Wd) (Q : Option Value → Wd → Prop) : Prop := Con yX5_of cX5_of 3 (some FieldType.int) 1 0 0 args w Q
theorem hd_X5_ofPerson : yX5_ofPerson.cls ≠ "java/lang/invoke/MethodHandle" ∧ yX5_ofPerson.cls ≠ "java/lang/invoke/VarHandle" ∧ (parseMethodDescriptor yX5_ofPerson.desc).map (fun d => d.parameters.length) = some 1 := by decide +kernel
abbrev K_X5_ofPerson (args : List Value) (w : Wd) (Q : Option Value → Wd → Prop) : Prop := Con yX5_ofPerson cX5_ofPerson 4 (some FieldType.int) 2 0 0 args w Q
theorem hd_X5_ofProject : yX5_ofProject.cls ≠ "java/lang/invoke/MethodHandle" ∧ yX5_ofProject.cls ≠ "java/lang/invoke/VarHandle" ∧ (parseMethodDescriptor yX5_ofProject.desc).map (fun d => d.parameters.length) = some 1 := by decide +kernel
abbrev K_X5_ofProject (args : List Value) (w : Wd) (Q : Option Value → Wd → Prop) : Prop := Con yX5_ofProject cX5_ofProject 4 (some FieldType.int) 2 0 0 args w Q
theorem hd_X5_open : yX5_open.cls ≠ "java/lang/invoke/MethodHandle" ∧ yX5_open.cls ≠ "java/lang/invoke/VarHandle" ∧ (parseMethodDescriptor yX5_open.desc).map (fun d => d.parameters.length) = some 0 := by decide +kernel
abbrev K_X5_open (args : List Value) (w : Wd) (Q : Option Value → Wd → Prop) : Prop := Con yX5_open cX5_open 1 (some FieldType.int) 3 0 0 args w Q
theorem hd_X5_orderAt : yX5_orderAt.cls ≠ "java/lang/invoke/MethodHandle" ∧ yX5_orderAt.cls ≠ "java/lang/invoke/VarHandle" ∧ (parseMethodDescriptor yX5_orderAt.desc).map (fun d => d.parameters.length) = some 2 := by decide +kernel
abbrev K_X5_orderAt (args : List Value) (w : Wd) (Q : Option Value → Wd → Prop) : Prop := Con yX5_orderAt cX5_orderAt 8 (some FieldType.int) 7 0 0 args w Q
theorem hd_X5_person : yX5_person.cls ≠ "java/lang/invoke/MethodHandle" ∧ yX5_person.cls ≠ "java/lang/invoke/VarHandle" ∧ (parseMethodDescriptor yX5_person.desc).map (fun d => d.parameters.length) = some 1 := by decide +kernel
abbrev K_X5_person (args : List Value) (w : Wd) (Q : Option Value → Wd → Prop) : Prop := Con yX5_person cX5_person 2 (some FieldType.int) 3 0 0 args w Q
theorem hd_X5_personOf : yX5_personOf.cls ≠ "java/lang/invoke/MethodHandle" ∧ yX5_personOf.cls ≠ "java/lang/invoke/VarHandle" ∧ (parseMethodDescriptor yX5_personOf.desc).map (fun d => d.parameters.length) = some 2 := by decide +kernel
abbrev K_X5_personOf (args : List Value) (w : Wd) (Q : Option Value → Wd → Prop) : Prop := Con yX5_personOf cX5_personOf 6 (some FieldType.int) 7 0 0 args w Q
theorem hd_X5_play : yX5_play.cls ≠ "java/lang/invoke/MethodHandle" ∧ yX5_play.cls ≠ "java/lang/invoke/VarHandle" ∧ (parseMethodDescriptor yX5_play.desc).map (fun d => d.parameters.length) = some 0 := by decide +kernel
abbrev K_X5_play (args : List Value) (w : Wd) (Q : Option Value → Wd → Prop) : Prop := Con yX5_play cX5_play 2 (some FieldType.int) 10 0 0 args w Q
theorem hd_X5_pledge : yX5_pledge.cls ≠ "java/lang/invoke/MethodHandle" ∧ yX5_pledge.cls ≠ "java/lang/invoke/VarHandle" ∧ (parseMethodDescriptor yX5_pledge.desc).map (fun d => d.parameters.length) = some 5 := by decide +kernel
abbrev K_X5_pledge (args : List Value) (w : Wd) (Q : Option Value → Wd → Prop) : Prop := Con yX5_pledge cX5_pledge 6 (some FieldType.int) 5 0 0 args w Q
theorem hd_X5_pledgeOf : yX5_pledgeOf.cls ≠ "java/lang/invoke/MethodHandle" ∧ yX5_pledgeOf.cls ≠ "java/lang/invoke/VarHandle" ∧ (parseMethodDescriptor yX5_pledgeOf.desc).map (fun d => d.parameters.length) = some 2 := by decide +kernel
abbrev K_X5_pledgeOf (args : List Value) (w : Wd) (Q : Option Value → Wd → Prop) : Prop := Con yX5_pledgeOf cX5_pledgeOf 5 (some FieldType.int) 7 0 0 args w Q
theorem hd_X5_pledges : yX5_pledges.cls ≠ "java/lang/invoke/MethodHandle" ∧ yX5_pledges.cls ≠ "java/lang/invoke/VarHandle" ∧ (parseMethodDescriptor yX5_pledges.desc).map (fun d => d.parameters.length) = some 2 := by decide +kernel
abbrev K_X5_pledges (args : List Value) (w : Wd) (Q : Option Value → Wd → Prop) : Prop := Con yX5_pledges cX5_pledges 6 (some FieldType.int) 2 0 0 args w Q
theorem hd_X5_project : yX5_project.cls ≠ "java/lang/invoke/MethodHandle" ∧ yX5_project.cls ≠ "java/lang/invoke/VarHandle" ∧ (parseMethodDescriptor yX5_project.desc).map (fun d => d.parameters.length) = some 1 := by decide +kernel
abbrev K_X5_project (args : List Value) (w : Wd) (Q : Option Value → Wd → Prop) : Prop := Con yX5_project cX5_project 2 (some FieldType.int) 3 0 0 args w Q
theorem hd_X5_projectOf : yX5_projectOf.cls ≠ "java/lang/invoke/MethodHandle" ∧ yX5_projectOf.cls ≠ "java/lang/invoke/VarHandle" ∧ (parseMethodDescriptor yX5_projectOf.desc).map (fun d => d.parameters.length) = some 2 := by decide +kernel
abbrev K_X5_projectOf (args : List Value) (w : Wd) (Q : Option Value → Wd → Prop) : Prop := Con yX5_projectOf cX5_projectOf 6 (some FieldType.int) 8 0 0 args w Q
theorem hd_X5_pushOf : yX5_pushOf.cls ≠ "java/lang/invoke/MethodHandle" ∧ yX5_pushOf.cls ≠ "java/lang/invoke/VarHandle" ∧ (parseMethodDescriptor yX5_pushOf.desc).map (fun d => d.parameters.length) = some 1 := by decide +kernel
abbrev K_X5_pushOf (args : List Value) (w : Wd) (Q : Option Value → Wd → Prop) : Prop := Con yX5_pushOf cX5_pushOf 2 (some FieldType.int) 7 0 0 args w Q
theorem hd_X5_readNumber : yX5_readNumber.cls ≠ "java/lang/invoke/MethodHandle" ∧ yX5_readNumber.cls ≠ "java/lang/invoke/VarHandle" ∧ (parseMethodDescriptor yX5_readNumber.desc).map (fun d => d.parameters.length) = some 1 := by decide +kernel
abbrev K_X5_readNumber (args : List Value) (w : Wd) (Q : Option Value → Wd → Prop) : Prop := Con yX5_readNumber cX5_readNumber 4 (some FieldType.int) 3 0 0 args w Q
theorem hd_X5_returns : yX5_returns.cls ≠ "java/lang/invoke/MethodHandle" ∧ yX5_returns.cls ≠ "java/lang/invoke/VarHandle" ∧ (parseMethodDescriptor yX5_returns.desc).map (fun d => d.parameters.length) = some 0 := by decide +kernel
abbrev K_X5_returns (args : List Value) (w : Wd) (Q : Option Value → Wd → Prop) : Prop := Con yX5_returns cX5_returns 2 (none) 1 0 0 args w Q
theorem hd_X5_setOf : yX5_setOf.cls ≠ "java/lang/invoke/MethodHandle" ∧ yX5_setOf.cls ≠ "java/lang/invoke/VarHandle" ∧ (parseMethodDescriptor yX5_setOf.desc).map (fun d => d.parameters.length) = some 2 := by decide +kernel
abbrev K_X5_setOf (args : List Value) (w : Wd) (Q : Option Value → Wd → Prop) : Prop := Con yX5_setOf cX5_setOf 5 (some FieldType.int) 6 0 0 args w Q
theorem hd_X5_setsThatHold : yX5_setsThatHold.cls ≠ "java/lang/invoke/MethodHandle" ∧ yX5_setsThatHold.cls ≠ "java/lang/invoke/VarHandle" ∧ (parseMethodDescriptor yX5_setsThatHold.desc).map (fun d => d.parameters.length) = some 0 := by decide +kernel
abbrev K_X5_setsThatHold (args : List Value) (w : Wd) (Q : Option Value → Wd → Prop) : Prop := Con yX5_setsThatHold cX5_setsThatHold 5 (some FieldType.int) 5 0 0 args w Q
theorem hd_X5_standing : yX5_standing.cls ≠ "java/lang/invoke/MethodHandle" ∧ yX5_standing.cls ≠ "java/lang/invoke/VarHandle" ∧ (parseMethodDescriptor yX5_standing.desc).map (fun d => d.parameters.length) = some 1 := by decide +kernel
abbrev K_X5_standing (args : List Value) (w : Wd) (Q : Option Value → Wd → Prop) : Prop := Con yX5_standing cX5_standing 2 (some FieldType.int) 7 0 0 args w Q
theorem hd_X5_stands : yX5_stands.cls ≠ "java/lang/invoke/MethodHandle" ∧ yX5_stands.cls ≠ "java/lang/invoke/VarHandle" ∧ (parseMethodDescriptor yX5_stands.desc).map (fun d => d.parameters.length) = some 1 := by decide +kernel
abbrev K_X5_stands (args : List Value) (w : Wd) (Q : Option Value → Wd → Prop) : Prop := Con yX5_stands cX5_stands 3 (some FieldType.int) 6 0 0 args w Q
theorem hd_X5_tipOf : yX5_tipOf.cls ≠ "java/lang/invoke/MethodHandle" ∧ yX5_tipOf.cls ≠ "java/lang/invoke/VarHandle" ∧ (parseMethodDescriptor yX5_tipOf.desc).map (fun d => d.parameters.length) = some 1 := by decide +kernel
abbrev K_X5_tipOf (args : List Value) (w : Wd) (Q : Option Value → Wd → Prop) : Prop := Con yX5_tipOf cX5_tipOf 6 (some FieldType.int) 6 0 0 args w Q
theorem hd_X5_type : yX5_type.cls ≠ "java/lang/invoke/MethodHandle" ∧ yX5_type.cls ≠ "java/lang/invoke/VarHandle" ∧ (parseMethodDescriptor yX5_type.desc).map (fun d => d.parameters.length) = some 1 := by decide +kernel
abbrev K_X5_type (args : List Value) (w : Wd) (Q : Option Value → Wd → Prop) : Prop := Con yX5_type cX5_type 2 (some FieldType.int) 2 0 0 args w Q
theorem hd_X5_undo : yX5_undo.cls ≠ "java/lang/invoke/MethodHandle" ∧ yX5_undo.cls ≠ "java/lang/invoke/VarHandle" ∧ (parseMethodDescriptor yX5_undo.desc).map (fun d => d.parameters.length) = some 0 := by decide +kernel
abbrev K_X5_undo (args : List Value) (w : Wd) (Q : Option Value → Wd → Prop) : Prop := Con yX5_undo cX5_undo 2 (some FieldType.int) 1 0 0 args w Q
theorem hd_X5_wavesNow : yX5_wavesNow.cls ≠ "java/lang/invoke/MethodHandle" ∧ yX5_wavesNow.cls ≠ "java/lang/invoke/VarHandle" ∧ (parseMethodDescriptor yX5_wavesNow.desc).map (fun d => d.parameters.length) = some 0 := by decide +kernel
abbrev K_X5_wavesNow (args : List Value) (w : Wd) (Q : Option Value → Wd → Prop) : Prop := Con yX5_wavesNow cX5_wavesNow 2 (some FieldType.int) 7 0 0 args w Q
theorem hd_X5_withdraw : yX5_withdraw.cls ≠ "java/lang/invoke/MethodHandle" ∧ yX5_withdraw.cls ≠ "java/lang/invoke/VarHandle" ∧ (parseMethodDescriptor yX5_withdraw.desc).map (fun d => d.parameters.length) = some 1 := by decide +kernel
abbrev K_X5_withdraw (args : List Value) (w : Wd) (Q : Option Value → Wd → Prop) : Prop := Con yX5_withdraw cX5_withdraw 2 (some FieldType.int) 8 0 0 args w Q
theorem hd_X5_withdraws : yX5_withdraws.cls ≠ "java/lang/invoke/MethodHandle" ∧ yX5_withdraws.cls ≠ "java/lang/invoke/VarHandle" ∧ (parseMethodDescriptor yX5_withdraws.desc).map (fun d => d.parameters.length) = some 1 := by decide +kernel
abbrev K_X5_withdraws (args : List Value) (w : Wd) (Q : Option Value → Wd → Prop) : Prop := Con yX5_withdraws cX5_withdraws 3 (some FieldType.int) 7 0 0 args w Q
