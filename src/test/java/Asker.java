/** Something that answers the document's calls, told by their names: the class, or the Model. */
interface Asker {
  long call(String name, int... a);
}
