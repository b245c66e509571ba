theorem t_lieOf {a b : Int32} {h : am_H} {Q : Option Value → am_H → Prop} (q : Q (some (.int (a * 3 + b))) h) : AC am_P 0 0 183 [.int a, .int b] h Q := by
  refine AC.of (ls := [_, _]) rfl ?_
  refine aw rfl rfl ?_
  refine aw rfl rfl ?_
  refine aw rfl rfl ?_
  refine aw rfl rfl ?_
  refine aw rfl rfl ?_
  refine aw_iret rfl rfl ?_
  exact q
