/-! resolved code: (pc, instruction, variant, its number or offset, place of its word): by wip/whole/gen/gen.py -/
