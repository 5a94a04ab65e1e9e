/** Short names of the constants of the face, and of the ends of int. */
interface Names {
    int NONE = CollectionsEngine.NONE;
    int OPEN = CollectionsEngine.OPEN;
    int TRYING = CollectionsEngine.TRYING;
    int GRACE = CollectionsEngine.GRACE;
    int OVERDUE = CollectionsEngine.OVERDUE;
    int PROMISED = CollectionsEngine.PROMISED;
    int WRITTEN_OFF = CollectionsEngine.WRITTEN_OFF;
    int PAID = CollectionsEngine.PAID;

    int SUCCESS = CollectionsEngine.SUCCESS;
    int NO_MONEY = CollectionsEngine.NO_MONEY;
    int EXPIRED = CollectionsEngine.EXPIRED;
    int BLOCKED = CollectionsEngine.BLOCKED;
    int ERROR = CollectionsEngine.ERROR;

    int CUT = CollectionsEngine.CUT;
    int BASIC = CollectionsEngine.BASIC;
    int FULL = CollectionsEngine.FULL;

    int MIN = Integer.MIN_VALUE;
    int MAX = Integer.MAX_VALUE;
}
