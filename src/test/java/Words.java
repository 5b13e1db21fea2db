/** The words of the document (../shared/DOC.md) for its numbers, as the tests of boundary cases use them. */
interface Words {
    int NONE = -1;

    int NUMBER = 0;
    int BOX = 1;
    int PAIR = 2;
    int SHARED = 3;
    int ALONE = 4;
    int COUNTED = 5;

    int MAKE = 0;
    int MOVE = 1;
    int COPY = 2;
    int BORROW = 3;
    int LEND = 4;
    int READ = 5;
    int WRITE = 6;
    int DROP = 7;
    int IF = 8;
    int ELSE = 9;
    int LOOP = 10;
    int END = 11;
    int LINK = 12;
    int HOLD = 13;
    int LET_GO = 14;
    int PANIC = 15;
    int STEP = 16;

    int ENDED = 0;
    int PANICKED = 1;
    int ABORTED = 2;
    int TOO_LONG = 3;

    int BY_READ = 0;
    int OF_BOX = 1;
    int OF_NODE = 2;

    int MIN = Integer.MIN_VALUE;
    int MAX = Integer.MAX_VALUE;

    Class<?> INDEX = IndexOutOfBoundsException.class;
    Class<?> ARGUMENT = IllegalArgumentException.class;
    Class<?> STATE = IllegalStateException.class;
}
