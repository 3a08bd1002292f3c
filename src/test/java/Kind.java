/** What an argument of a call is: the smallest and the greatest that the document allows. */
enum Kind {
  SLOT(0, 11, true), VARIABLE(0, 9, true), LEVEL(0, 9, true), UPPER_LEVEL(0, 8, true),
  FLAG(0, 1, false), TABLE(0, 15, false), SET(0, 1023, false), WAY(0, 2, false),
  LEAST(0, 11, false), BITS(1, 10, false), THAN(0, 1024, false), ASSIGNMENT(0, 1023, false),
  NUMBER(0, Integer.MAX_VALUE, false), COST(0, 99, false);

  final int smallest;
  final int greatest;
  /** Whether an IndexOutOfBoundsException tells that it is wrong, otherwise an IllegalArgument. */
  final boolean isIndex;

  Kind(int smallest, int greatest, boolean isIndex) {
    this.smallest = smallest;
    this.greatest = greatest;
    this.isIndex = isIndex;
  }
}
